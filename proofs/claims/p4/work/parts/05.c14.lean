def q_X12_sum_3 : List Cond := .code yX12_sum cX12_sum 2 none :: (([.code yX12_term cX12_term 2 none, .code yX12_atom cX12_atom 2 none, .code yX12_look cX12_look 1 (some .int), .code yX12_here cX12_here 1 (some .int), .fieldLink RX12 112 "LeftArgumentsModel" "at" "I", .fieldLink RX12 109 "LeftArgumentsModel" "size" "I", .fieldLink RX12 9 "LeftArgumentsModel" "tape" "[I", .initialized RX12, .instanceMethod yX12_here, .selects RX12 yX12_here yX12_here, .methodLink RX12 115 yX12_here, .instanceMethod yX12_look, .selects RX12 yX12_look yX12_look, .methodLink RX12 131 yX12_look, .code yX12_isDigit cX12_isDigit 1 (some .boolean), .static yX12_isDigit, .methodLink RX12 134 yX12_isDigit, .code yX12_letterOf cX12_letterOf 1 (some .int), .static yX12_letterOf, .methodLink RX12 145 yX12_letterOf, .code yX12_bad cX12_bad 1 none, .fieldLink RX12 119 "LeftArgumentsModel" "wrong" "I", .instanceMethod yX12_bad, .selects RX12 yX12_bad yX12_bad, .methodLink RX12 128 yX12_bad, .code yX12_opens cX12_opens 1 none, .fieldLink RX12 125 "LeftArgumentsModel" "deep" "I", .instanceMethod yX12_opens, .selects RX12 yX12_opens yX12_opens, .methodLink RX12 149 yX12_opens, .code yX12_sum cX12_sum 2 none, .code yX12_put cX12_put 3 none, .fieldLink RX12 13 "LeftArgumentsModel" "code" "[I", .fieldLink RX12 122 "LeftArgumentsModel" "text" "I", .fieldLink RX12 19 "LeftArgumentsModel" "codes" "[I", .fieldLink RX12 16 "LeftArgumentsModel" "value" "[I", .instanceMethod yX12_put, .selects RX12 yX12_put yX12_put, .methodLink RX12 141 yX12_put, .code yX12_plainNumber cX12_plainNumber 3 (some .int), .instanceMethod yX12_plainNumber, .selects RX12 yX12_plainNumber yX12_plainNumber, .methodLink RX12 138 yX12_plainNumber, .instanceMethod yX12_atom, .selects RX12 yX12_atom yX12_atom, .methodLink RX12 159 yX12_atom, .instanceMethod yX12_term, .selects RX12 yX12_term yX12_term, .methodLink RX12 162 yX12_term, .instanceMethod yX12_sum, .selects RX12 yX12_sum yX12_sum, .methodLink RX12 152 yX12_sum, .code yX12_closes cX12_closes 2 none, .instanceMethod yX12_closes, .selects RX12 yX12_closes yX12_closes, .methodLink RX12 155 yX12_closes] : List Cond) ++ wsX120)
set_option maxRecDepth 20000 in
theorem g_X12_sum_3_0 : GoodIn q_X12_sum_3 (wsV RX12 162 RX12 yX12_term q_X12_term_3) := goodIn_app (goodIn_r _ [49, 47, 48, 8] rfl (by decide +kernel)) (goodIn_ca (goodIn_r (.code yX12_term cX12_term 2 none :: [.code yX12_atom cX12_atom 2 none, .code yX12_look cX12_look 1 (some .int), .code yX12_here cX12_here 1 (some .int), .fieldLink RX12 112 "LeftArgumentsModel" "at" "I", .fieldLink RX12 109 "LeftArgumentsModel" "size" "I", .fieldLink RX12 9 "LeftArgumentsModel" "tape" "[I", .initialized RX12, .instanceMethod yX12_here, .selects RX12 yX12_here yX12_here, .methodLink RX12 115 yX12_here, .instanceMethod yX12_look, .selects RX12 yX12_look yX12_look, .methodLink RX12 131 yX12_look, .code yX12_isDigit cX12_isDigit 1 (some .boolean), .static yX12_isDigit, .methodLink RX12 134 yX12_isDigit, .code yX12_letterOf cX12_letterOf 1 (some .int), .static yX12_letterOf, .methodLink RX12 145 yX12_letterOf, .code yX12_bad cX12_bad 1 none, .fieldLink RX12 119 "LeftArgumentsModel" "wrong" "I", .instanceMethod yX12_bad, .selects RX12 yX12_bad yX12_bad, .methodLink RX12 128 yX12_bad, .code yX12_opens cX12_opens 1 none, .fieldLink RX12 125 "LeftArgumentsModel" "deep" "I", .instanceMethod yX12_opens, .selects RX12 yX12_opens yX12_opens, .methodLink RX12 149 yX12_opens, .code yX12_sum cX12_sum 2 none, .code yX12_term cX12_term 2 none, .code yX12_put cX12_put 3 none, .fieldLink RX12 13 "LeftArgumentsModel" "code" "[I", .fieldLink RX12 122 "LeftArgumentsModel" "text" "I", .fieldLink RX12 19 "LeftArgumentsModel" "codes" "[I", .fieldLink RX12 16 "LeftArgumentsModel" "value" "[I", .instanceMethod yX12_put, .selects RX12 yX12_put yX12_put, .methodLink RX12 141 yX12_put, .code yX12_plainNumber cX12_plainNumber 3 (some .int), .instanceMethod yX12_plainNumber, .selects RX12 yX12_plainNumber yX12_plainNumber, .methodLink RX12 138 yX12_plainNumber, .instanceMethod yX12_atom, .selects RX12 yX12_atom yX12_atom, .methodLink RX12 159 yX12_atom, .instanceMethod yX12_term, .selects RX12 yX12_term yX12_term, .methodLink RX12 162 yX12_term, .instanceMethod yX12_sum, .selects RX12 yX12_sum yX12_sum, .methodLink RX12 152 yX12_sum, .code yX12_closes cX12_closes 2 none, .instanceMethod yX12_closes, .selects RX12 yX12_closes yX12_closes, .methodLink RX12 155 yX12_closes]) [1, 2, 3, 4, 5, 6, 7, 8, 9, 10, 11, 12, 13, 14, 15, 16, 17, 18, 19, 20, 21, 22, 23, 24, 25, 26, 27, 28, 29, 30, 31, 1, 32, 33, 34, 35, 36, 37, 38, 39, 40, 41, 42, 43, 44, 45, 46, 47, 48, 49, 50, 51, 52, 53, 54, 55, 56] rfl (by decide +kernel)) (goodIn_sub (fun _ h => List.mem_cons_of_mem _ (List.mem_append_right _ h)) gwX12))
set_option maxRecDepth 20000 in
theorem g_X12_sum_3_1 : GoodIn q_X12_sum_3 (wsV RX12 131 RX12 yX12_look q_X12_look) := goodIn_app (goodIn_r _ [14, 12, 13, 8] rfl (by decide +kernel)) (goodIn_ca (goodIn_r (.code yX12_look cX12_look 1 (some .int) :: [.code yX12_here cX12_here 1 (some .int), .fieldLink RX12 112 "LeftArgumentsModel" "at" "I", .fieldLink RX12 109 "LeftArgumentsModel" "size" "I", .fieldLink RX12 9 "LeftArgumentsModel" "tape" "[I", .initialized RX12, .instanceMethod yX12_here, .selects RX12 yX12_here yX12_here, .methodLink RX12 115 yX12_here]) [3, 4, 5, 6, 7, 8, 9, 10, 11] rfl (by decide +kernel)) (goodIn_sub (fun _ h => List.mem_cons_of_mem _ (List.mem_append_right _ h)) gwX12))
set_option maxRecDepth 20000 in
theorem g_X12_sum_3_3 : GoodIn q_X12_sum_3 (wsV RX12 141 RX12 yX12_put q_X12_put) := goodIn_app (goodIn_r _ [39, 37, 38, 8] rfl (by decide +kernel)) (goodIn_ca (goodIn_r (.code yX12_put cX12_put 3 none :: [.fieldLink RX12 13 "LeftArgumentsModel" "code" "[I", .fieldLink RX12 122 "LeftArgumentsModel" "text" "I", .fieldLink RX12 19 "LeftArgumentsModel" "codes" "[I", .fieldLink RX12 16 "LeftArgumentsModel" "value" "[I"]) [32, 33, 34, 35, 36] rfl (by decide +kernel)) (goodIn_sub (fun _ h => List.mem_cons_of_mem _ (List.mem_append_right _ h)) gwX12))
set_option maxHeartbeats 4000000 in
set_option maxRecDepth 100000 in
theorem k_X12_sum_3 (l : Launch) (dC : Nat → ClassId) (dI : Nat → Nat → Nat) (h0 : Nat) (h1 : Nat) (h2 : Nat) (h3 : Nat) (h4 : Nat) (v0 : Int32) (v1 : Int32) (v2 : Int32) (r0 : Nat) (r1 : Nat) (r2 : Nat) (r3 : Nat) (v3 : Int32) (v4 : Int32) (r4 : Nat) (r5 : Nat) (r6 : Nat) (r7 : Nat) (v5 : Int32) (r8 : Nat) (r9 : Nat) (v6 : Int32) (v7 : Int32) (r10 : Nat) (r11 : Nat) (v8 : Int32) (v9 : Int32) (r12 : Nat) (v10 : Int32) (v11 : Int32) (r13 : Nat) (v12 : Int32) (w13 : Int64) (r14 : Nat) (v14 : Int32) (v15 : Int32) (r15 : Nat) (r16 : Nat) (r17 : Nat) (r18 : Nat) (r19 : Nat) (r20 : Nat) (v16 : Int32) (r21 : Nat) (r22 : Nat) (r23 : Nat) (v17 : Int32) (g0 : ClassId) (f18 : Nat → Int32) (g1 : ClassId) (f19 : Nat → Int32) (g2 : ClassId) (f20 : Nat → Int32) (g3 : ClassId) (f21 : Nat → Int32) (i_v1 : 0 ≤ v1.toInt ∧ v1.toInt ≤ 240) (i_v2 : 0 ≤ v2.toInt ∧ v2.toInt ≤ 240) (i_v3 : 0 ≤ v3.toInt ∧ v3.toInt ≤ 4) (i_v4 : 0 ≤ v4.toInt ∧ v4.toInt ≤ 4) (i_v5 : 0 ≤ v5.toInt ∧ v5.toInt ≤ 8) (i_v6 : 0 ≤ v6.toInt ∧ v6.toInt ≤ 8) (i_v7 : 0 ≤ v7.toInt ∧ v7.toInt ≤ 1) (i_v8 : -1 ≤ v8.toInt ∧ v8.toInt ≤ 3) (i_v12 : 0 ≤ v12.toInt ∧ v12.toInt ≤ 40) (i_v16 : 0 ≤ v16.toInt ∧ v16.toInt ≤ 10) (i_v17 : 0 ≤ v17.toInt ∧ v17.toInt ≤ 1) (ia_f18 : (∀ j, 0 ≤ (f18 j).toInt ∧ (f18 j).toInt ≤ 255)) (pp0 : 0 ≤ pm_x f21 v4 ∧ pm_x f21 v4 ≤ v2.toInt) (sz : Nat) : Met l yX12_sum q_X12_sum_3 ({ frames := 13, cells := 0, slots := 0, locals := 273 }) (va_Pc [.ref h0] (fun U => U.heap.size = sz ∧ va_P (dC, dI) vwCl (wd_d906eaf1 h0 v0 h1 v1 v2 (-1) 3 h2 h3 h4 r0 r1 r2 r3 v3 v4 r4 r5 r6 r7 v5 r8 r9 v6 v7 r10 r11 v8 v9 r12 v10 v11 r13 v12 w13 r14 v14 v15 r15 r16 r17 r18 r19 r20 v16 r21 r22 r23 v17 h1 g0 f18 h2 g1 f19 h3 g2 f20 h4 g3 f21) U.heap ∧ va_K (dC, dI) vwCl [(g0, .int), (g1, .int), (g2, .int), (g3, .int)] U ∧ va_D (fun _ => True) (wd_d906eaf1 h0 v0 h1 v1 v2 (-1) 3 h2 h3 h4 r0 r1 r2 r3 v3 v4 r4 r5 r6 r7 v5 r8 r9 v6 v7 r10 r11 v8 v9 r12 v10 v11 r13 v12 w13 r14 v14 v15 r15 r16 r17 r18 r19 r20 v16 r21 r22 r23 v17 h1 g0 f18 h2 g1 f19 h3 g2 f20 h4 g3 f21))) (va_Qv (fun (_ : Unit) => True) (fun (_ : Unit) (t : State) => (∃ (o_h0_3 : Int32) (o_h2 : Nat → Int32) (o_h3 : Nat → Int32) (o_h4 : Nat → Int32), 0 ≤ o_h0_3.toInt ∧ o_h0_3.toInt ≤ 240 ∧ (pm_x o_h4 v4 - pm_x f21 v4 ≤ o_h0_3.toInt - v2.toInt ∧ v2.toInt ≤ o_h0_3.toInt) ∧ (pm_R v4 0 1 9 f19 f20 f21 o_h2 o_h3 o_h4) ∧ (pg_sum f18 v1.toInt 3 v2.toInt = (true, o_h0_3.toInt)) ∧ va_P (dC, dI) vwCl (wd_d906eaf1 h0 v0 h1 v1 o_h0_3 (-1) 3 h2 h3 h4 r0 r1 r2 r3 v3 v4 r4 r5 r6 r7 v5 r8 r9 v6 v7 r10 r11 v8 v9 r12 v10 v11 r13 v12 w13 r14 v14 v15 r15 r16 r17 r18 r19 r20 v16 r21 r22 r23 v17 h1 g0 f18 h2 g1 o_h2 h3 g2 o_h3 h4 g3 o_h4) t.heap ∧ va_K (dC, dI) vwCl [] t ∧ va_D (va_A (wd_d906eaf1 h0 v0 h1 v1 v2 (-1) 3 h2 h3 h4 r0 r1 r2 r3 v3 v4 r4 r5 r6 r7 v5 r8 r9 v6 v7 r10 r11 v8 v9 r12 v10 v11 r13 v12 w13 r14 v14 v15 r15 r16 r17 r18 r19 r20 v16 r21 r22 r23 v17 h1 g0 f18 h2 g1 f19 h3 g2 f20 h4 g3 f21) sz) (wd_d906eaf1 h0 v0 h1 v1 o_h0_3 (-1) 3 h2 h3 h4 r0 r1 r2 r3 v3 v4 r4 r5 r6 r7 v5 r8 r9 v6 v7 r10 r11 v8 v9 r12 v10 v11 r13 v12 w13 r14 v14 v15 r15 r16 r17 r18 r19 r20 v16 r21 r22 r23 v17 h1 g0 f18 h2 g1 o_h2 h3 g2 o_h3 h4 g3 o_h4)) ∨ (∃ (o_h0_3 : Int32) (o_h0_4 : Int32) (o_h0_5 : Int32) (o_h2 : Nat → Int32) (o_h3 : Nat → Int32) (o_h4 : Nat → Int32), 0 ≤ o_h0_3.toInt ∧ o_h0_3.toInt ≤ 243 ∧ 0 ≤ o_h0_4.toInt ∧ o_h0_4.toInt ≤ 240 ∧ (pm_x o_h4 v4 - pm_x f21 v4 ≤ o_h0_3.toInt - v2.toInt ∧ v2.toInt ≤ o_h0_3.toInt) ∧ (pm_F v4 f19 f20 f21 o_h2 o_h3 o_h4) ∧ (pg_sum f18 v1.toInt 3 v2.toInt = (false, o_h0_4.toInt)) ∧ va_P (dC, dI) vwCl (wd_d906eaf1 h0 v0 h1 v1 o_h0_3 o_h0_4 o_h0_5 h2 h3 h4 r0 r1 r2 r3 v3 v4 r4 r5 r6 r7 v5 r8 r9 v6 v7 r10 r11 v8 v9 r12 v10 v11 r13 v12 w13 r14 v14 v15 r15 r16 r17 r18 r19 r20 v16 r21 r22 r23 v17 h1 g0 f18 h2 g1 o_h2 h3 g2 o_h3 h4 g3 o_h4) t.heap ∧ va_K (dC, dI) vwCl [] t ∧ va_D (va_A (wd_d906eaf1 h0 v0 h1 v1 v2 (-1) 3 h2 h3 h4 r0 r1 r2 r3 v3 v4 r4 r5 r6 r7 v5 r8 r9 v6 v7 r10 r11 v8 v9 r12 v10 v11 r13 v12 w13 r14 v14 v15 r15 r16 r17 r18 r19 r20 v16 r21 r22 r23 v17 h1 g0 f18 h2 g1 f19 h3 g2 f20 h4 g3 f21) sz) (wd_d906eaf1 h0 v0 h1 v1 o_h0_3 o_h0_4 o_h0_5 h2 h3 h4 r0 r1 r2 r3 v3 v4 r4 r5 r6 r7 v5 r8 r9 v6 v7 r10 r11 v8 v9 r12 v10 v11 r13 v12 w13 r14 v14 v15 r15 r16 r17 r18 r19 r20 v16 r21 r22 r23 v17 h1 g0 f18 h2 g1 o_h2 h3 g2 o_h3 h4 g3 o_h4))) (va_A (wd_d906eaf1 h0 v0 h1 v1 v2 (-1) 3 h2 h3 h4 r0 r1 r2 r3 v3 v4 r4 r5 r6 r7 v5 r8 r9 v6 v7 r10 r11 v8 v9 r12 v10 v11 r13 v12 w13 r14 v14 v15 r15 r16 r17 r18 r19 r20 v16 r21 r22 r23 v17 h1 g0 f18 h2 g1 f19 h3 g2 f20 h4 g3 f21) sz)) 0 0 (va_A (wd_d906eaf1 h0 v0 h1 v1 v2 (-1) 3 h2 h3 h4 r0 r1 r2 r3 v3 v4 r4 r5 r6 r7 v5 r8 r9 v6 v7 r10 r11 v8 v9 r12 v10 v11 r13 v12 w13 r14 v14 v15 r15 r16 r17 r18 r19 r20 v16 r21 r22 r23 v17 h1 g0 f18 h2 g1 f19 h3 g2 f20 h4 g3 f21) sz) := by
  refine Met.ofW (cc := cX12_sum) (maxL := 2) (ret := none) (by decide) rfl ?_
  intro p e s m args below meth c s₁ B hml hv
  obtain ⟨i_v1a, i_v1b⟩ := i_v1
  obtain ⟨i_v2a, i_v2b⟩ := i_v2
  obtain ⟨i_v3a, i_v3b⟩ := i_v3
  obtain ⟨i_v4a, i_v4b⟩ := i_v4
  obtain ⟨i_v5a, i_v5b⟩ := i_v5
  obtain ⟨i_v6a, i_v6b⟩ := i_v6
  obtain ⟨i_v7a, i_v7b⟩ := i_v7
  obtain ⟨i_v8a, i_v8b⟩ := i_v8
  obtain ⟨i_v12a, i_v12b⟩ := i_v12
  obtain ⟨i_v16a, i_v16b⟩ := i_v16
  obtain ⟨i_v17a, i_v17b⟩ := i_v17
  obtain ⟨rfl, hsz, hP, hK, hD0⟩ := hv
  have hx := B.exec
  have hb := B.bytes
  have hr := B.returns
  have hts := atoms_spec (ws := q_X12_sum_3) B.pre
  have hown : s.vm.findClass RX12 = some m.cls := findClass_of_methodNamed B.named
  have hlocks := B.notSynchronized
  subst hsz
  have hD := hD0.self (sz := s.heap.size)
  generalize hAe : va_A (wd_d906eaf1 h0 v0 h1 v1 v2 (-1) 3 h2 h3 h4 r0 r1 r2 r3 v3 v4 r4 r5 r6 r7 v5 r8 r9 v6 v7 r10 r11 v8 v9 r12 v10 v11 r13 v12 w13 r14 v14 v15 r15 r16 r17 r18 r19 r20 v16 r21 r22 r23 v17 h1 g0 f18 h2 g1 f19 h3 g2 f20 h4 g3 f21) s.heap.size = A at hD ⊢
  have hA : ∀ q : Nat, s.heap.size ≤ q → A q := fun q h => by rw [← hAe]; exact Or.inr h
  have hS : va_S A s.heap s.heap [] := va_S.rf
  generalize hQ : (MQ below _ _ s 0 0 A) = Q
  have hl := lv_entry ([.ref h0]) (n := 2) (Nat.le_of_ble_eq_true rfl)
  rw [lg_entry_eq]
  generalize (lg_sl ([.ref h0]) ++ List.replicate (2 - (lg_sl ([.ref h0])).length) Slot.unset).toArray = ls at hl ⊢
  have hl : lv_has ls 2 [(0, .ref h0)] := hl
  obtain ⟨H, hH⟩ : ∃ H : Heap, H = s.heap := ⟨_, rfl⟩
  obtain ⟨locs, hlocs⟩ : ∃ y : List Loc, y = [] := ⟨_, rfl⟩
  have hS : va_S A s.heap H locs := by rw [hH, hlocs]; exact va_S.rf
  have hP : va_P (dC, dI) vwCl (wd_d906eaf1 h0 v0 h1 v1 v2 (-1) 3 h2 h3 h4 r0 r1 r2 r3 v3 v4 r4 r5 r6 r7 v5 r8 r9 v6 v7 r10 r11 v8 v9 r12 v10 v11 r13 v12 w13 r14 v14 v15 r15 r16 r17 r18 r19 r20 v16 r21 r22 r23 v17 h1 g0 f18 h2 g1 f19 h3 g2 f20 h4 g3 f21) H := by rw [hH]; exact hP
  rw [← hH, ← hlocs]
  have px1 := pp0.1; have px2 := pp0.2
  have hgR := pm_R.refl (L := 0) v4 f19 f20 f21 px1
  have hgF := hgR.1
  refine lv_aload_n hx hb dX12_sum_0 rfl (lv_at hl 0 rfl) ?_
  have hPc := hP.sub (ws' := (wd_d906eaf1 h0 v0 h1 v1 v2 (-1) 3 h2 h3 h4 r0 r1 r2 r3 v3 v4 r4 r5 r6 r7 v5 r8 r9 v6 v7 r10 r11 v8 v9 r12 v10 v11 r13 v12 w13 r14 v14 v15 r15 r16 r17 r18 r19 r20 v16 r21 r22 r23 v17 h1 g0 f18 h2 g1 f19 h3 g2 f20 h4 g3 f21)) [0, 1, 2, 3, 4] rfl
  have hDc := hD.sub (ws' := (wd_d906eaf1 h0 v0 h1 v1 v2 (-1) 3 h2 h3 h4 r0 r1 r2 r3 v3 v4 r4 r5 r6 r7 v5 r8 r9 v6 v7 r10 r11 v8 v9 r12 v10 v11 r13 v12 w13 r14 v14 v15 r15 r16 r17 r18 r19 r20 v16 r21 r22 r23 v17 h1 g0 f18 h2 g1 f19 h3 g2 f20 h4 g3 f21)) [0, 1, 2, 3, 4] (by decide) rfl
  have hKc := hK.sub (tys' := [(g0, .int), (g1, .int), (g2, .int), (g3, .int)]) [0, 1, 2, 3] rfl
  have hFc := va_free (wc := (wd_d906eaf1 h0 v0 h1 v1 v2 (-1) 3 h2 h3 h4 r0 r1 r2 r3 v3 v4 r4 r5 r6 r7 v5 r8 r9 v6 v7 r10 r11 v8 v9 r12 v10 v11 r13 v12 w13 r14 v14 v15 r15 r16 r17 r18 r19 r20 v16 r21 r22 r23 v17 h1 g0 f18 h2 g1 f19 h3 g2 f20 h4 g3 f21)) hD hS hA [0, 1, 2, 3, 4] rfl
  refine va_callv (va_runV (As := []) (rest := []) ⟨hx, hb, hml, hown, hts⟩ (k_X12_term_3 l dC dI h0 h1 h2 h3 h4 v0 v1 v2 r0 r1 r2 r3 v3 v4 r4 r5 r6 r7 v5 r8 r9 v6 v7 r10 r11 v8 v9 r12 v10 v11 r13 v12 w13 r14 v14 v15 r15 r16 r17 r18 r19 r20 v16 r21 r22 r23 v17 g0 f18 g1 f19 g2 f20 g3 f21 ⟨i_v1a, i_v1b⟩ ⟨i_v2a, i_v2b⟩ ⟨i_v3a, i_v3b⟩ ⟨i_v4a, i_v4b⟩ ⟨i_v5a, i_v5b⟩ ⟨i_v6a, i_v6b⟩ ⟨i_v7a, i_v7b⟩ ⟨i_v8a, i_v8b⟩ ⟨i_v12a, i_v12b⟩ ⟨i_v16a, i_v16b⟩ ⟨i_v17a, i_v17b⟩ ia_f18 pp0 H.size) (cwV 0 hts g_X12_sum_3_0 rfl rfl rfl (by decide +kernel) ⟨Nat.le_of_ble_eq_true rfl, Nat.le_of_ble_eq_true rfl⟩) (pv_PV12 hPc hKc hDc (q0 := 0) rfl) rfl rfl hl.1 rfl (lv_room (Nat.le_of_ble_eq_true rfl)) dX12_sum_1 ⟨Nat.le_of_ble_eq_true rfl, Nat.le_of_ble_eq_true rfl⟩) hS (fun q _ h => hFc q h) hFc (fun u t H1 locs ht hvm hwra1 hB hz1 hk1 hS => ?_)
  rcases hB with hB | hB
  · skip
    obtain ⟨x2, fn3, fn4, fn5, oa_x2, ob_x2, pt0_ra1, pt1_ra1, pt2_ra1, hP1, hK1, hD1⟩ := hB
    rw [ht] at hP1
    obtain ⟨hP2, hD2⟩ := va_join (wr := []) (w1 := (wd_d906eaf1 h0 v0 h1 v1 x2 (-1) 3 h2 h3 h4 r0 r1 r2 r3 v3 v4 r4 r5 r6 r7 v5 r8 r9 v6 v7 r10 r11 v8 v9 r12 v10 v11 r13 v12 w13 r14 v14 v15 r15 r16 r17 r18 r19 r20 v16 r21 r22 r23 v17 h1 g0 f18 h2 g1 fn3 h3 g2 fn4 h4 g3 fn5)) hP hD [0, 1, 2, 3, 4] [] rfl rfl (by decide) (by decide) hk1 hFc hP1 hD1
    clear hP hD hPc hDc hKc hFc hP1 hK1 hD1 hk1 hz1
    generalize H1 = H at hP2 hS ⊢
    have hP : va_P (dC, dI) vwCl (wd_d906eaf1 h0 v0 h1 v1 x2 (-1) 3 h2 h3 h4 r0 r1 r2 r3 v3 v4 r4 r5 r6 r7 v5 r8 r9 v6 v7 r10 r11 v8 v9 r12 v10 v11 r13 v12 w13 r14 v14 v15 r15 r16 r17 r18 r19 r20 v16 r21 r22 r23 v17 h1 g0 f18 h2 g1 fn3 h3 g2 fn4 h4 g3 fn5) H := hP2
    have hD : va_D A (wd_d906eaf1 h0 v0 h1 v1 x2 (-1) 3 h2 h3 h4 r0 r1 r2 r3 v3 v4 r4 r5 r6 r7 v5 r8 r9 v6 v7 r10 r11 v8 v9 r12 v10 v11 r13 v12 w13 r14 v14 v15 r15 r16 r17 r18 r19 r20 v16 r21 r22 r23 v17 h1 g0 f18 h2 g1 fn3 h3 g2 fn4 h4 g3 fn5) := hD2
    clear hP2 hD2
    have hgR := hgR.app (k' := 1) (D := 8) pt1_ra1 (by decide) (by decide) (by decide) (by decide)
    have hgF := hgR.1
    have hxl := hgF.1
    refine lv_aload_n hx hb dX12_sum_4 rfl (lv_at hl 0 rfl) ?_
    refine va_get (D := (dC, dI)) (ci := 12) (v := .int (-1)) (C := RX12) (T := TX12) (N := 48) hx hb hts (fun _ h => List.mem_cons_of_mem _ (List.mem_append_right _ h)) hown hK hP 0 rfl rfl 4 (by decide) (hts (.fieldLink RX12 119 "LeftArgumentsModel" "wrong" "I") (List.mem_cons_of_mem _ (List.mem_append_left _ (List.mem_of_getElem? (i := 21) rfl)))) (fun _ h9 => h9) rfl dX12_sum_5 ?_
    refine lv_iconst (v := (-1)) hx hb dX12_sum_8 (by decide) ?_
    refine lv_icmp_ne (tgt := 19) hx hb dX12_sum_9 (by decide) (fun c => absurd (by decide) c) (fun _ => ?_)
    refine lv_aload_n hx hb dX12_sum_12 rfl (lv_at hl 0 rfl) ?_
    have hPc := hP.sub (ws' := (wd_f4cd022e h0 v0 h1 v1 x2 (-1) 3 h2 h3 h4 r0 r1 r2 r3 v3 v4 r4 r5 r6 r7 v5 r8 r9 v6 v7 r10 r11 v8 v9 r12 v10 v11 r13 v12 w13 r14 v14 v15 r15 r16 r17 r18 r19 r20 v16 r21 r22 r23 v17 h1 g0 f18)) [0, 1] rfl
    have hDc := hD.sub (ws' := (wd_f4cd022e h0 v0 h1 v1 x2 (-1) 3 h2 h3 h4 r0 r1 r2 r3 v3 v4 r4 r5 r6 r7 v5 r8 r9 v6 v7 r10 r11 v8 v9 r12 v10 v11 r13 v12 w13 r14 v14 v15 r15 r16 r17 r18 r19 r20 v16 r21 r22 r23 v17 h1 g0 f18)) [0, 1] (by decide) rfl
    have hKc := hK.sub (tys' := [(g0, .int)]) [0] rfl
    have hFc := va_free (wc := (wd_f4cd022e h0 v0 h1 v1 x2 (-1) 3 h2 h3 h4 r0 r1 r2 r3 v3 v4 r4 r5 r6 r7 v5 r8 r9 v6 v7 r10 r11 v8 v9 r12 v10 v11 r13 v12 w13 r14 v14 v15 r15 r16 r17 r18 r19 r20 v16 r21 r22 r23 v17 h1 g0 f18)) hD hS hA [0, 1] rfl
    refine va_calli (va_runV (As := []) (rest := []) ⟨hx, hb, hml, hown, hts⟩ (k_X12_look l dC dI h0 h1 v0 v1 x2 ((-1)) 3 h2 h3 h4 r0 r1 r2 r3 v3 v4 r4 r5 r6 r7 v5 r8 r9 v6 v7 r10 r11 v8 v9 r12 v10 v11 r13 v12 w13 r14 v14 v15 r15 r16 r17 r18 r19 r20 v16 r21 r22 r23 v17 g0 f18 ⟨i_v1a, i_v1b⟩ ⟨oa_x2, ob_x2⟩ ⟨i_v3a, i_v3b⟩ ⟨i_v4a, i_v4b⟩ ⟨i_v5a, i_v5b⟩ ⟨i_v6a, i_v6b⟩ ⟨i_v7a, i_v7b⟩ ⟨i_v8a, i_v8b⟩ ⟨i_v12a, i_v12b⟩ ⟨i_v16a, i_v16b⟩ ⟨i_v17a, i_v17b⟩ ia_f18 H.size) (cwV 0 hts g_X12_sum_3_1 rfl rfl rfl (by decide +kernel) ⟨Nat.le_of_ble_eq_true rfl, Nat.le_of_ble_eq_true rfl⟩) (pv_PV12 hPc hKc hDc (q0 := 0) rfl) rfl rfl hl.1 rfl (lv_room (Nat.le_of_ble_eq_true rfl)) dX12_sum_13 ⟨Nat.le_of_ble_eq_true rfl, Nat.le_of_ble_eq_true rfl⟩) hS (fun q _ h => hFc q h) hFc (fun ra6 u t H1 locs ht hvm hwra6 hB hz1 hk1 hS => ?_)
    try rw [hwra6] at hB
    have hkra6_0 : (((-1) : Int32)).toInt = -1 := by decide
    have hkra6_1 : ((3 : Int32)).toInt = 3 := by decide
    rcases hB with hB | hB
    · skip
      obtain ⟨x7, oa_x7, ob_x7, pt0_ra6, pt1_ra6, pt2_ra6, pt3_ra6, pt4_ra6, pt5_ra6, pt6_ra6, hP1, hK1, hD1⟩ := hB
      rw [ht] at hP1
      obtain ⟨hP2, hD2⟩ := va_join (wr := (wd_ad0642e8 h2 g1 fn3 h3 g2 fn4 h4 g3 fn5)) (w1 := (wd_f4cd022e h0 v0 h1 v1 x7 (-1) 3 h2 h3 h4 r0 r1 r2 r3 v3 v4 r4 r5 r6 r7 v5 r8 r9 v6 v7 r10 r11 v8 v9 r12 v10 v11 r13 v12 w13 r14 v14 v15 r15 r16 r17 r18 r19 r20 v16 r21 r22 r23 v17 h1 g0 f18)) hP hD [0, 1] [2, 3, 4] rfl rfl (by decide) (by decide) hk1 hFc hP1 hD1
      clear hP hD hPc hDc hKc hFc hP1 hK1 hD1 hk1 hz1
      generalize H1 = H at hP2 hS ⊢
      have hP := hP2.sub (ws' := (wd_d906eaf1 h0 v0 h1 v1 x7 (-1) 3 h2 h3 h4 r0 r1 r2 r3 v3 v4 r4 r5 r6 r7 v5 r8 r9 v6 v7 r10 r11 v8 v9 r12 v10 v11 r13 v12 w13 r14 v14 v15 r15 r16 r17 r18 r19 r20 v16 r21 r22 r23 v17 h1 g0 f18 h2 g1 fn3 h3 g2 fn4 h4 g3 fn5)) [3, 4, 0, 1, 2] rfl
      have hD := hD2.sub (ws' := (wd_d906eaf1 h0 v0 h1 v1 x7 (-1) 3 h2 h3 h4 r0 r1 r2 r3 v3 v4 r4 r5 r6 r7 v5 r8 r9 v6 v7 r10 r11 v8 v9 r12 v10 v11 r13 v12 w13 r14 v14 v15 r15 r16 r17 r18 r19 r20 v16 r21 r22 r23 v17 h1 g0 f18 h2 g1 fn3 h3 g2 fn4 h4 g3 fn5)) [3, 4, 0, 1, 2] (by decide) rfl
      clear hP2 hD2
      obtain rfl : ra6 = ((-1) : Int32) := pv_cs (by decide) pt0_ra6 pt1_ra6
      refine lv_goto (tgt := 20) hx hb dX12_sum_16 (by decide) ?_
      refine lv_istore_n (lv' := [(1, .int (-1)), (0, .ref h0)]) hx hb dX12_sum_20 rfl hl (by decide) rfl (fun ls hl => ?_)
      refine lv_iload_n hx hb dX12_sum_21 rfl (lv_at hl 0 rfl) ?_
      refine lv_bipush (v := 43) hx hb dX12_sum_22 (by decide) ?_
      refine lv_icmp_eq (tgt := 33) hx hb dX12_sum_24 (by decide) (fun c => absurd c (by decide)) (fun _ => ?_)
      refine lv_iload_n hx hb dX12_sum_27 rfl (lv_at hl 0 rfl) ?_
      refine lv_bipush (v := 45) hx hb dX12_sum_28 (by decide) ?_
      refine lv_icmp_ne (tgt := 83) hx hb dX12_sum_30 (by decide) (fun _ => ?_) (fun c => absurd c (by decide))
      subst hQ
      have hP9 := hP.sub (ws' := (wd_d906eaf1 h0 v0 h1 v1 x7 (-1) 3 h2 h3 h4 r0 r1 r2 r3 v3 v4 r4 r5 r6 r7 v5 r8 r9 v6 v7 r10 r11 v8 v9 r12 v10 v11 r13 v12 w13 r14 v14 v15 r15 r16 r17 r18 r19 r20 v16 r21 r22 r23 v17 h1 g0 f18 h2 g1 fn3 h3 g2 fn4 h4 g3 fn5)) [0, 1, 2, 3, 4] rfl
      have hD9 := hD.sub (ws' := (wd_d906eaf1 h0 v0 h1 v1 x7 (-1) 3 h2 h3 h4 r0 r1 r2 r3 v3 v4 r4 r5 r6 r7 v5 r8 r9 v6 v7 r10 r11 v8 v9 r12 v10 v11 r13 v12 w13 r14 v14 v15 r15 r16 r17 r18 r19 r20 v16 r21 r22 r23 v17 h1 g0 f18 h2 g1 fn3 h3 g2 fn4 h4 g3 fn5)) [0, 1, 2, 3, 4] (by decide) rfl
      have hK9 := hK.sub (tys' := []) [] rfl
      exact W.vret hx hb hr (fun t ht hW => ⟨⟨(), rfl, trivial, Or.inl ⟨x7, fn3, fn4, fn5, oa_x7, ob_x7, by constructor <;> omega, by exact hgR.mono (by decide), by rw [pg_sum.eq]; first | assumption | (apply pg_row.st <;> first | assumption | omega) | (apply pg_L.out <;> first | assumption | omega) | (apply pg_L.last <;> first | assumption | omega), by rw [ht]; exact hP9, va_K.moved hW.alike hK9, hD9⟩⟩, hS.F ht⟩) hS.2.2 dX12_sum_83
    · skip
      obtain ⟨x8, oa_x8, ob_x8, pt0_ra6, pt1_ra6, pt2_ra6, pt3_ra6, pt4_ra6, pt5_ra6, pt6_ra6, pt7_ra6, hP1, hK1, hD1⟩ := hB
      rw [ht] at hP1
      obtain ⟨hP2, hD2⟩ := va_join (wr := (wd_ad0642e8 h2 g1 fn3 h3 g2 fn4 h4 g3 fn5)) (w1 := (wd_f4cd022e h0 v0 h1 v1 x8 (-1) 3 h2 h3 h4 r0 r1 r2 r3 v3 v4 r4 r5 r6 r7 v5 r8 r9 v6 v7 r10 r11 v8 v9 r12 v10 v11 r13 v12 w13 r14 v14 v15 r15 r16 r17 r18 r19 r20 v16 r21 r22 r23 v17 h1 g0 f18)) hP hD [0, 1] [2, 3, 4] rfl rfl (by decide) (by decide) hk1 hFc hP1 hD1
      clear hP hD hPc hDc hKc hFc hP1 hK1 hD1 hk1 hz1
      generalize H1 = H at hP2 hS ⊢
      have hP := hP2.sub (ws' := (wd_d906eaf1 h0 v0 h1 v1 x8 (-1) 3 h2 h3 h4 r0 r1 r2 r3 v3 v4 r4 r5 r6 r7 v5 r8 r9 v6 v7 r10 r11 v8 v9 r12 v10 v11 r13 v12 w13 r14 v14 v15 r15 r16 r17 r18 r19 r20 v16 r21 r22 r23 v17 h1 g0 f18 h2 g1 fn3 h3 g2 fn4 h4 g3 fn5)) [3, 4, 0, 1, 2] rfl
      have hD := hD2.sub (ws' := (wd_d906eaf1 h0 v0 h1 v1 x8 (-1) 3 h2 h3 h4 r0 r1 r2 r3 v3 v4 r4 r5 r6 r7 v5 r8 r9 v6 v7 r10 r11 v8 v9 r12 v10 v11 r13 v12 w13 r14 v14 v15 r15 r16 r17 r18 r19 r20 v16 r21 r22 r23 v17 h1 g0 f18 h2 g1 fn3 h3 g2 fn4 h4 g3 fn5)) [3, 4, 0, 1, 2] (by decide) rfl
      clear hP2 hD2
      refine lv_goto (tgt := 20) hx hb dX12_sum_16 (by decide) ?_
      refine lv_istore_n (lv' := [(1, .int ra6), (0, .ref h0)]) hx hb dX12_sum_20 rfl hl (by decide) rfl (fun ls hl => ?_)
      have hL19 : ∀ (n9 : Nat), ∀ (x9 : Int32) (x10 : Int32) (fn11 : Nat → Int32) (fn12 : Nat → Int32) (fn13 : Nat → Int32) (H : Heap) (locs : List Loc) (ls : Array Slot), 0 ≤ x9.toInt → x9.toInt ≤ 255 → 0 ≤ x10.toInt → x10.toInt ≤ 239 → (pm_x fn13 v4 - pm_x f21 v4 ≤ x10.toInt - v2.toInt ∧ v2.toInt ≤ x10.toInt) → (pm_R v4 0 1 9 f19 f20 f21 fn11 fn12 fn13) → (pg_L f18 v1.toInt 43 45 (pg_term f18 v1.toInt 3) x10.toInt (pg_row f18 v1.toInt 43 45 (pg_term f18 v1.toInt 3) v2.toInt)) → (x9.toInt = pg_ch f18 v1.toInt x10.toInt) → (¬ pg_ch f18 v1.toInt x10.toInt = 32) → (300 - x10.toInt).toNat < n9 → va_P (dC, dI) vwCl (wd_d906eaf1 h0 v0 h1 v1 x10 (-1) 3 h2 h3 h4 r0 r1 r2 r3 v3 v4 r4 r5 r6 r7 v5 r8 r9 v6 v7 r10 r11 v8 v9 r12 v10 v11 r13 v12 w13 r14 v14 v15 r15 r16 r17 r18 r19 r20 v16 r21 r22 r23 v17 h1 g0 f18 h2 g1 fn11 h3 g2 fn12 h4 g3 fn13) H → va_D A (wd_d906eaf1 h0 v0 h1 v1 x10 (-1) 3 h2 h3 h4 r0 r1 r2 r3 v3 v4 r4 r5 r6 r7 v5 r8 r9 v6 v7 r10 r11 v8 v9 r12 v10 v11 r13 v12 w13 r14 v14 v15 r15 r16 r17 r18 r19 r20 v16 r21 r22 r23 v17 h1 g0 f18 h2 g1 fn11 h3 g2 fn12 h4 g3 fn13) → va_S A s.heap H locs → lv_has ls 2 [(1, .int x9), (0, .ref h0)] → W p l e ({ frames := 13, cells := 0, slots := 0, locals := 273 }) s m ([.ref h0] : List Value).toArray below meth c H locs 0 0 Q (F0 m 21 ls []) := by
        intro n9
        induction n9 with
        | zero => intro x9 x10 fn11 fn12 fn13 H locs ls qa_x9 qb_x9 qa_x10 qb_x10 gh0_hL19 gh1_hL19 gh2_hL19 gh3_hL19 gh4_hL19 hm9 hP hD hS hl; exact absurd hm9 (Nat.not_lt_zero _)
        | succ n9 ih_hL19 =>
          intro x9 x10 fn11 fn12 fn13 H locs ls qa_x9 qb_x9 qa_x10 qb_x10 gh0_hL19 gh1_hL19 gh2_hL19 gh3_hL19 gh4_hL19 hm9 hP hD hS hl
          have hgR := gh1_hL19; have hgF := hgR.1; have hxl := hgF.1
          refine lv_iload_n hx hb dX12_sum_21 rfl (lv_at hl 0 rfl) ?_
          refine lv_bipush (v := 43) hx hb dX12_sum_22 (by decide) ?_
          refine lv_icmp_eq (tgt := 33) hx hb dX12_sum_24 (by decide) (fun c20 => ?_) (fun c20 => ?_)
          · skip
            have fc20 : x9.toInt = 43 := congrArg Int32.toInt c20
            refine lv_aload_n hx hb dX12_sum_33 rfl (lv_at hl 1 rfl) ?_
            refine lv_dup hx hb dX12_sum_34 rfl ?_
            refine va_get (D := (dC, dI)) (ci := 12) (v := .int x10) (C := RX12) (T := TX12) (N := 48) hx hb hts (fun _ h => List.mem_cons_of_mem _ (List.mem_append_right _ h)) hown hK hP 0 rfl rfl 3 (by decide) (hts (.fieldLink RX12 112 "LeftArgumentsModel" "at" "I") (List.mem_cons_of_mem _ (List.mem_append_left _ (List.mem_of_getElem? (i := 4) rfl)))) (fun _ h9 => h9) rfl dX12_sum_35 ?_
            refine lv_iconst (v := 1) hx hb dX12_sum_38 (by decide) ?_
            refine lv_iadd hx hb dX12_sum_39 ?_
            refine lv_topi (fun t21 et21 => ?_)
            have gt21 : t21.toInt = x10.toInt + 1 := pv_add (a := x10.toInt) (b := 1) et21 rfl (by decide) (by omega) (by omega)
            refine va_put (D := (dC, dI)) (ci := 12) (v := .int t21) (ty := .int) (C := RX12) (T := TX12) (N := 48) hx hb hts (fun _ h => List.mem_cons_of_mem _ (List.mem_append_right _ h)) tyX12 tyX12_ok nmX12 hown hK hP hD hS 0 rfl rfl 3 (by decide) (hts (.fieldLink RX12 112 "LeftArgumentsModel" "at" "I") (List.mem_cons_of_mem _ (List.mem_append_left _ (List.mem_of_getElem? (i := 4) rfl)))) (fun _ h9 => h9) rfl (by decide +kernel) rfl rfl (Nat.le_of_ble_eq_true rfl) dX12_sum_40 (fun H locs hP hD hS => ?_)
            have hP : va_P (dC, dI) vwCl (wd_d906eaf1 h0 v0 h1 v1 t21 (-1) 3 h2 h3 h4 r0 r1 r2 r3 v3 v4 r4 r5 r6 r7 v5 r8 r9 v6 v7 r10 r11 v8 v9 r12 v10 v11 r13 v12 w13 r14 v14 v15 r15 r16 r17 r18 r19 r20 v16 r21 r22 r23 v17 h1 g0 f18 h2 g1 fn11 h3 g2 fn12 h4 g3 fn13) H := hP
            have hD : va_D A (wd_d906eaf1 h0 v0 h1 v1 t21 (-1) 3 h2 h3 h4 r0 r1 r2 r3 v3 v4 r4 r5 r6 r7 v5 r8 r9 v6 v7 r10 r11 v8 v9 r12 v10 v11 r13 v12 w13 r14 v14 v15 r15 r16 r17 r18 r19 r20 v16 r21 r22 r23 v17 h1 g0 f18 h2 g1 fn11 h3 g2 fn12 h4 g3 fn13) := hD
            refine lv_aload_n hx hb dX12_sum_43 rfl (lv_at hl 1 rfl) ?_
            have hPc := hP.sub (ws' := (wd_d906eaf1 h0 v0 h1 v1 t21 (-1) 3 h2 h3 h4 r0 r1 r2 r3 v3 v4 r4 r5 r6 r7 v5 r8 r9 v6 v7 r10 r11 v8 v9 r12 v10 v11 r13 v12 w13 r14 v14 v15 r15 r16 r17 r18 r19 r20 v16 r21 r22 r23 v17 h1 g0 f18 h2 g1 fn11 h3 g2 fn12 h4 g3 fn13)) [0, 1, 2, 3, 4] rfl
            have hDc := hD.sub (ws' := (wd_d906eaf1 h0 v0 h1 v1 t21 (-1) 3 h2 h3 h4 r0 r1 r2 r3 v3 v4 r4 r5 r6 r7 v5 r8 r9 v6 v7 r10 r11 v8 v9 r12 v10 v11 r13 v12 w13 r14 v14 v15 r15 r16 r17 r18 r19 r20 v16 r21 r22 r23 v17 h1 g0 f18 h2 g1 fn11 h3 g2 fn12 h4 g3 fn13)) [0, 1, 2, 3, 4] (by decide) rfl
            have hKc := hK.sub (tys' := [(g0, .int), (g1, .int), (g2, .int), (g3, .int)]) [0, 1, 2, 3] rfl
            have hFc := va_free (wc := (wd_d906eaf1 h0 v0 h1 v1 t21 (-1) 3 h2 h3 h4 r0 r1 r2 r3 v3 v4 r4 r5 r6 r7 v5 r8 r9 v6 v7 r10 r11 v8 v9 r12 v10 v11 r13 v12 w13 r14 v14 v15 r15 r16 r17 r18 r19 r20 v16 r21 r22 r23 v17 h1 g0 f18 h2 g1 fn11 h3 g2 fn12 h4 g3 fn13)) hD hS hA [0, 1, 2, 3, 4] rfl
            refine va_callv (va_runV (As := []) (rest := []) ⟨hx, hb, hml, hown, hts⟩ (k_X12_term_3 l dC dI h0 h1 h2 h3 h4 v0 v1 t21 r0 r1 r2 r3 v3 v4 r4 r5 r6 r7 v5 r8 r9 v6 v7 r10 r11 v8 v9 r12 v10 v11 r13 v12 w13 r14 v14 v15 r15 r16 r17 r18 r19 r20 v16 r21 r22 r23 v17 g0 f18 g1 fn11 g2 fn12 g3 fn13 ⟨i_v1a, i_v1b⟩ ⟨by first | omega | decide, by first | omega | decide⟩ ⟨i_v3a, i_v3b⟩ ⟨i_v4a, i_v4b⟩ ⟨i_v5a, i_v5b⟩ ⟨i_v6a, i_v6b⟩ ⟨i_v7a, i_v7b⟩ ⟨i_v8a, i_v8b⟩ ⟨i_v12a, i_v12b⟩ ⟨i_v16a, i_v16b⟩ ⟨i_v17a, i_v17b⟩ ia_f18 (by constructor <;> omega) H.size) (cwV 0 hts g_X12_sum_3_0 rfl rfl rfl (by decide +kernel) ⟨Nat.le_of_ble_eq_true rfl, Nat.le_of_ble_eq_true rfl⟩) (pv_PV12 hPc hKc hDc (q0 := 0) rfl) rfl rfl hl.1 rfl (lv_room (Nat.le_of_ble_eq_true rfl)) dX12_sum_44 ⟨Nat.le_of_ble_eq_true rfl, Nat.le_of_ble_eq_true rfl⟩) hS (fun q _ h => hFc q h) hFc (fun u t H1 locs ht hvm hwra22 hB hz1 hk1 hS => ?_)
            rcases hB with hB | hB
            · skip
              obtain ⟨x23, fn24, fn25, fn26, oa_x23, ob_x23, pt0_ra22, pt1_ra22, pt2_ra22, hP1, hK1, hD1⟩ := hB
              rw [ht] at hP1
              obtain ⟨hP2, hD2⟩ := va_join (wr := []) (w1 := (wd_d906eaf1 h0 v0 h1 v1 x23 (-1) 3 h2 h3 h4 r0 r1 r2 r3 v3 v4 r4 r5 r6 r7 v5 r8 r9 v6 v7 r10 r11 v8 v9 r12 v10 v11 r13 v12 w13 r14 v14 v15 r15 r16 r17 r18 r19 r20 v16 r21 r22 r23 v17 h1 g0 f18 h2 g1 fn24 h3 g2 fn25 h4 g3 fn26)) hP hD [0, 1, 2, 3, 4] [] rfl rfl (by decide) (by decide) hk1 hFc hP1 hD1
              clear hP hD hPc hDc hKc hFc hP1 hK1 hD1 hk1 hz1
              generalize H1 = H at hP2 hS ⊢
              have hP : va_P (dC, dI) vwCl (wd_d906eaf1 h0 v0 h1 v1 x23 (-1) 3 h2 h3 h4 r0 r1 r2 r3 v3 v4 r4 r5 r6 r7 v5 r8 r9 v6 v7 r10 r11 v8 v9 r12 v10 v11 r13 v12 w13 r14 v14 v15 r15 r16 r17 r18 r19 r20 v16 r21 r22 r23 v17 h1 g0 f18 h2 g1 fn24 h3 g2 fn25 h4 g3 fn26) H := hP2
              have hD : va_D A (wd_d906eaf1 h0 v0 h1 v1 x23 (-1) 3 h2 h3 h4 r0 r1 r2 r3 v3 v4 r4 r5 r6 r7 v5 r8 r9 v6 v7 r10 r11 v8 v9 r12 v10 v11 r13 v12 w13 r14 v14 v15 r15 r16 r17 r18 r19 r20 v16 r21 r22 r23 v17 h1 g0 f18 h2 g1 fn24 h3 g2 fn25 h4 g3 fn26) := hD2
              clear hP2 hD2
              have hgR := hgR.app (k' := 2) (D := 9) pt1_ra22 (by decide) (by decide) (by decide) (by decide)
              have hgF := hgR.1
              have hxl := hgF.1
              refine lv_aload_n hx hb dX12_sum_47 rfl (lv_at hl 1 rfl) ?_
              refine lv_iload_n hx hb dX12_sum_48 rfl (lv_at hl 0 rfl) ?_
              refine lv_bipush (v := 43) hx hb dX12_sum_49 (by decide) ?_
              refine lv_icmp_ne (tgt := 58) hx hb dX12_sum_51 (by decide) (fun c27 => by exfalso; have fc27 : ¬ (x9.toInt = 43) := fun h9 => c27 (Int32.toInt_inj.mp h9); omega) (fun _ => ?_)
              refine lv_iconst (v := 2) hx hb dX12_sum_54 (by decide) ?_
              refine lv_goto (tgt := 59) hx hb dX12_sum_55 (by decide) ?_
              refine lv_iconst (v := 0) hx hb dX12_sum_59 (by decide) ?_
              have hPc := hP.sub (ws' := (wd_c62683a8 h0 v0 h1 v1 x23 (-1) 3 h2 h3 h4 r0 r1 r2 r3 v3 v4 r4 r5 r6 r7 v5 r8 r9 v6 v7 r10 r11 v8 v9 r12 v10 v11 r13 v12 w13 r14 v14 v15 r15 r16 r17 r18 r19 r20 v16 r21 r22 r23 v17 h2 g1 fn24 h3 g2 fn25 h4 g3 fn26)) [0, 2, 3, 4] rfl
              have hDc := hD.sub (ws' := (wd_c62683a8 h0 v0 h1 v1 x23 (-1) 3 h2 h3 h4 r0 r1 r2 r3 v3 v4 r4 r5 r6 r7 v5 r8 r9 v6 v7 r10 r11 v8 v9 r12 v10 v11 r13 v12 w13 r14 v14 v15 r15 r16 r17 r18 r19 r20 v16 r21 r22 r23 v17 h2 g1 fn24 h3 g2 fn25 h4 g3 fn26)) [0, 2, 3, 4] (by decide) rfl
              have hKc := hK.sub (tys' := [(g1, .int), (g2, .int), (g3, .int)]) [1, 2, 3] rfl
              have hFc := va_free (wc := (wd_c62683a8 h0 v0 h1 v1 x23 (-1) 3 h2 h3 h4 r0 r1 r2 r3 v3 v4 r4 r5 r6 r7 v5 r8 r9 v6 v7 r10 r11 v8 v9 r12 v10 v11 r13 v12 w13 r14 v14 v15 r15 r16 r17 r18 r19 r20 v16 r21 r22 r23 v17 h2 g1 fn24 h3 g2 fn25 h4 g3 fn26)) hD hS hA [0, 2, 3, 4] rfl
              refine va_callv (va_runV (As := [.int 2, .int 0]) (rest := []) ⟨hx, hb, hml, hown, hts⟩ (k_X12_put l dC dI h0 h2 h3 h4 v0 h1 v1 x23 ((-1)) 3 r0 r1 r2 r3 v3 v4 r4 r5 r6 r7 v5 r8 r9 v6 v7 r10 r11 v8 v9 r12 v10 v11 r13 v12 w13 r14 v14 v15 r15 r16 r17 r18 r19 r20 v16 r21 r22 r23 v17 g1 fn24 g2 fn25 g3 fn26 2 0 ⟨i_v1a, i_v1b⟩ ⟨i_v3a, i_v3b⟩ ⟨i_v4a, i_v4b⟩ ⟨i_v5a, i_v5b⟩ ⟨i_v6a, i_v6b⟩ ⟨i_v7a, i_v7b⟩ ⟨i_v8a, i_v8b⟩ ⟨i_v12a, i_v12b⟩ ⟨i_v16a, i_v16b⟩ ⟨i_v17a, i_v17b⟩ (by constructor <;> omega) H.size) (cwV 2 hts g_X12_sum_3_3 rfl rfl rfl (by decide +kernel) ⟨Nat.le_of_ble_eq_true rfl, Nat.le_of_ble_eq_true rfl⟩) (pv_PV12 hPc hKc hDc (q0 := 0) rfl) rfl rfl hl.1 rfl (lv_room (Nat.le_of_ble_eq_true rfl)) dX12_sum_60 ⟨Nat.le_of_ble_eq_true rfl, Nat.le_of_ble_eq_true rfl⟩) hS (fun q _ h => hFc q h) hFc (fun u t H1 locs ht hvm hwra28 hB hz1 hk1 hS => ?_)
              have hkra28_0 : (((-1) : Int32)).toInt = -1 := by decide
              have hkra28_1 : ((0 : Int32)).toInt = 0 := by decide
              have hkra28_2 : ((2 : Int32)).toInt = 2 := by decide
              have hkra28_3 : ((3 : Int32)).toInt = 3 := by decide
              obtain ⟨fn29, fn30, fn31, pt0_ra28, hP1, hK1, hD1⟩ := hB
              rw [ht] at hP1
              obtain ⟨hP2, hD2⟩ := va_join (wr := (wd_d0032b31 h1 g0 f18)) (w1 := (wd_c62683a8 h0 v0 h1 v1 x23 (-1) 3 h2 h3 h4 r0 r1 r2 r3 v3 v4 r4 r5 r6 r7 v5 r8 r9 v6 v7 r10 r11 v8 v9 r12 v10 v11 r13 v12 w13 r14 v14 v15 r15 r16 r17 r18 r19 r20 v16 r21 r22 r23 v17 h2 g1 fn29 h3 g2 fn30 h4 g3 fn31)) hP hD [0, 2, 3, 4] [1] rfl rfl (by decide) (by decide) hk1 hFc hP1 hD1
              clear hP hD hPc hDc hKc hFc hP1 hK1 hD1 hk1 hz1
              generalize H1 = H at hP2 hS ⊢
              have hP := hP2.sub (ws' := (wd_d906eaf1 h0 v0 h1 v1 x23 (-1) 3 h2 h3 h4 r0 r1 r2 r3 v3 v4 r4 r5 r6 r7 v5 r8 r9 v6 v7 r10 r11 v8 v9 r12 v10 v11 r13 v12 w13 r14 v14 v15 r15 r16 r17 r18 r19 r20 v16 r21 r22 r23 v17 h1 g0 f18 h2 g1 fn29 h3 g2 fn30 h4 g3 fn31)) [1, 0, 2, 3, 4] rfl
              have hD := hD2.sub (ws' := (wd_d906eaf1 h0 v0 h1 v1 x23 (-1) 3 h2 h3 h4 r0 r1 r2 r3 v3 v4 r4 r5 r6 r7 v5 r8 r9 v6 v7 r10 r11 v8 v9 r12 v10 v11 r13 v12 w13 r14 v14 v15 r15 r16 r17 r18 r19 r20 v16 r21 r22 r23 v17 h1 g0 f18 h2 g1 fn29 h3 g2 fn30 h4 g3 fn31)) [1, 0, 2, 3, 4] (by decide) rfl
              clear hP2 hD2
              have hgR := hgR.bin (k' := 1) (D := 9) pt0_ra28 (by decide) (by decide) (by decide) (by decide) (by decide)
              have hgF := hgR.1
              have hxl := hgF.1
              have hxs := pt0_ra28.step
              refine lv_aload_n hx hb dX12_sum_63 rfl (lv_at hl 1 rfl) ?_
              refine va_get (D := (dC, dI)) (ci := 12) (v := .int (-1)) (C := RX12) (T := TX12) (N := 48) hx hb hts (fun _ h => List.mem_cons_of_mem _ (List.mem_append_right _ h)) hown hK hP 0 rfl rfl 4 (by decide) (hts (.fieldLink RX12 119 "LeftArgumentsModel" "wrong" "I") (List.mem_cons_of_mem _ (List.mem_append_left _ (List.mem_of_getElem? (i := 21) rfl)))) (fun _ h9 => h9) rfl dX12_sum_64 ?_
              refine lv_iconst (v := (-1)) hx hb dX12_sum_67 (by decide) ?_
              refine lv_icmp_ne (tgt := 78) hx hb dX12_sum_68 (by decide) (fun c => absurd (by decide) c) (fun _ => ?_)
              refine lv_aload_n hx hb dX12_sum_71 rfl (lv_at hl 1 rfl) ?_
              have hPc := hP.sub (ws' := (wd_f4cd022e h0 v0 h1 v1 x23 (-1) 3 h2 h3 h4 r0 r1 r2 r3 v3 v4 r4 r5 r6 r7 v5 r8 r9 v6 v7 r10 r11 v8 v9 r12 v10 v11 r13 v12 w13 r14 v14 v15 r15 r16 r17 r18 r19 r20 v16 r21 r22 r23 v17 h1 g0 f18)) [0, 1] rfl
              have hDc := hD.sub (ws' := (wd_f4cd022e h0 v0 h1 v1 x23 (-1) 3 h2 h3 h4 r0 r1 r2 r3 v3 v4 r4 r5 r6 r7 v5 r8 r9 v6 v7 r10 r11 v8 v9 r12 v10 v11 r13 v12 w13 r14 v14 v15 r15 r16 r17 r18 r19 r20 v16 r21 r22 r23 v17 h1 g0 f18)) [0, 1] (by decide) rfl
              have hKc := hK.sub (tys' := [(g0, .int)]) [0] rfl
              have hFc := va_free (wc := (wd_f4cd022e h0 v0 h1 v1 x23 (-1) 3 h2 h3 h4 r0 r1 r2 r3 v3 v4 r4 r5 r6 r7 v5 r8 r9 v6 v7 r10 r11 v8 v9 r12 v10 v11 r13 v12 w13 r14 v14 v15 r15 r16 r17 r18 r19 r20 v16 r21 r22 r23 v17 h1 g0 f18)) hD hS hA [0, 1] rfl
              refine va_calli (va_runV (As := []) (rest := []) ⟨hx, hb, hml, hown, hts⟩ (k_X12_look l dC dI h0 h1 v0 v1 x23 ((-1)) 3 h2 h3 h4 r0 r1 r2 r3 v3 v4 r4 r5 r6 r7 v5 r8 r9 v6 v7 r10 r11 v8 v9 r12 v10 v11 r13 v12 w13 r14 v14 v15 r15 r16 r17 r18 r19 r20 v16 r21 r22 r23 v17 g0 f18 ⟨i_v1a, i_v1b⟩ ⟨oa_x23, ob_x23⟩ ⟨i_v3a, i_v3b⟩ ⟨i_v4a, i_v4b⟩ ⟨i_v5a, i_v5b⟩ ⟨i_v6a, i_v6b⟩ ⟨i_v7a, i_v7b⟩ ⟨i_v8a, i_v8b⟩ ⟨i_v12a, i_v12b⟩ ⟨i_v16a, i_v16b⟩ ⟨i_v17a, i_v17b⟩ ia_f18 H.size) (cwV 0 hts g_X12_sum_3_1 rfl rfl rfl (by decide +kernel) ⟨Nat.le_of_ble_eq_true rfl, Nat.le_of_ble_eq_true rfl⟩) (pv_PV12 hPc hKc hDc (q0 := 0) rfl) rfl rfl hl.1 rfl (lv_room (Nat.le_of_ble_eq_true rfl)) dX12_sum_72 ⟨Nat.le_of_ble_eq_true rfl, Nat.le_of_ble_eq_true rfl⟩) hS (fun q _ h => hFc q h) hFc (fun ra32 u t H1 locs ht hvm hwra32 hB hz1 hk1 hS => ?_)
              try rw [hwra32] at hB
              have hkra32_0 : (((-1) : Int32)).toInt = -1 := by decide
              have hkra32_1 : ((3 : Int32)).toInt = 3 := by decide
              rcases hB with hB | hB
              · skip
                obtain ⟨x33, oa_x33, ob_x33, pt0_ra32, pt1_ra32, pt2_ra32, pt3_ra32, pt4_ra32, pt5_ra32, pt6_ra32, hP1, hK1, hD1⟩ := hB
                rw [ht] at hP1
                obtain ⟨hP2, hD2⟩ := va_join (wr := (wd_ad0642e8 h2 g1 fn29 h3 g2 fn30 h4 g3 fn31)) (w1 := (wd_f4cd022e h0 v0 h1 v1 x33 (-1) 3 h2 h3 h4 r0 r1 r2 r3 v3 v4 r4 r5 r6 r7 v5 r8 r9 v6 v7 r10 r11 v8 v9 r12 v10 v11 r13 v12 w13 r14 v14 v15 r15 r16 r17 r18 r19 r20 v16 r21 r22 r23 v17 h1 g0 f18)) hP hD [0, 1] [2, 3, 4] rfl rfl (by decide) (by decide) hk1 hFc hP1 hD1
                clear hP hD hPc hDc hKc hFc hP1 hK1 hD1 hk1 hz1
                generalize H1 = H at hP2 hS ⊢
                have hP := hP2.sub (ws' := (wd_d906eaf1 h0 v0 h1 v1 x33 (-1) 3 h2 h3 h4 r0 r1 r2 r3 v3 v4 r4 r5 r6 r7 v5 r8 r9 v6 v7 r10 r11 v8 v9 r12 v10 v11 r13 v12 w13 r14 v14 v15 r15 r16 r17 r18 r19 r20 v16 r21 r22 r23 v17 h1 g0 f18 h2 g1 fn29 h3 g2 fn30 h4 g3 fn31)) [3, 4, 0, 1, 2] rfl
                have hD := hD2.sub (ws' := (wd_d906eaf1 h0 v0 h1 v1 x33 (-1) 3 h2 h3 h4 r0 r1 r2 r3 v3 v4 r4 r5 r6 r7 v5 r8 r9 v6 v7 r10 r11 v8 v9 r12 v10 v11 r13 v12 w13 r14 v14 v15 r15 r16 r17 r18 r19 r20 v16 r21 r22 r23 v17 h1 g0 f18 h2 g1 fn29 h3 g2 fn30 h4 g3 fn31)) [3, 4, 0, 1, 2] (by decide) rfl
                clear hP2 hD2
                obtain rfl : ra32 = ((-1) : Int32) := pv_cs (by decide) pt0_ra32 pt1_ra32
                refine lv_goto (tgt := 79) hx hb dX12_sum_75 (by decide) ?_
                refine lv_istore_n (lv' := [(1, .int (-1)), (0, .ref h0)]) hx hb dX12_sum_79 rfl hl (by decide) rfl (fun ls hl => ?_)
                refine lv_goto (tgt := 21) hx hb dX12_sum_80 (by decide) ?_
                refine lv_iload_n hx hb dX12_sum_21 rfl (lv_at hl 0 rfl) ?_
                refine lv_bipush (v := 43) hx hb dX12_sum_22 (by decide) ?_
                refine lv_icmp_eq (tgt := 33) hx hb dX12_sum_24 (by decide) (fun c => absurd c (by decide)) (fun _ => ?_)
                refine lv_iload_n hx hb dX12_sum_27 rfl (lv_at hl 0 rfl) ?_
                refine lv_bipush (v := 45) hx hb dX12_sum_28 (by decide) ?_
                refine lv_icmp_ne (tgt := 83) hx hb dX12_sum_30 (by decide) (fun _ => ?_) (fun c => absurd c (by decide))
                subst hQ
                have hP9 := hP.sub (ws' := (wd_d906eaf1 h0 v0 h1 v1 x33 (-1) 3 h2 h3 h4 r0 r1 r2 r3 v3 v4 r4 r5 r6 r7 v5 r8 r9 v6 v7 r10 r11 v8 v9 r12 v10 v11 r13 v12 w13 r14 v14 v15 r15 r16 r17 r18 r19 r20 v16 r21 r22 r23 v17 h1 g0 f18 h2 g1 fn29 h3 g2 fn30 h4 g3 fn31)) [0, 1, 2, 3, 4] rfl
                have hD9 := hD.sub (ws' := (wd_d906eaf1 h0 v0 h1 v1 x33 (-1) 3 h2 h3 h4 r0 r1 r2 r3 v3 v4 r4 r5 r6 r7 v5 r8 r9 v6 v7 r10 r11 v8 v9 r12 v10 v11 r13 v12 w13 r14 v14 v15 r15 r16 r17 r18 r19 r20 v16 r21 r22 r23 v17 h1 g0 f18 h2 g1 fn29 h3 g2 fn30 h4 g3 fn31)) [0, 1, 2, 3, 4] (by decide) rfl
                have hK9 := hK.sub (tys' := []) [] rfl
                exact W.vret hx hb hr (fun t ht hW => ⟨⟨(), rfl, trivial, Or.inl ⟨x33, fn29, fn30, fn31, oa_x33, ob_x33, by constructor <;> omega, by exact hgR.mono (by decide), by rw [pg_sum.eq]; first | assumption | (apply pg_row.st <;> first | assumption | omega) | (apply pg_L.out <;> first | assumption | omega) | (apply pg_L.last <;> first | assumption | omega), by rw [ht]; exact hP9, va_K.moved hW.alike hK9, hD9⟩⟩, hS.F ht⟩) hS.2.2 dX12_sum_83
              · skip
                obtain ⟨x34, oa_x34, ob_x34, pt0_ra32, pt1_ra32, pt2_ra32, pt3_ra32, pt4_ra32, pt5_ra32, pt6_ra32, pt7_ra32, hP1, hK1, hD1⟩ := hB
                rw [ht] at hP1
                obtain ⟨hP2, hD2⟩ := va_join (wr := (wd_ad0642e8 h2 g1 fn29 h3 g2 fn30 h4 g3 fn31)) (w1 := (wd_f4cd022e h0 v0 h1 v1 x34 (-1) 3 h2 h3 h4 r0 r1 r2 r3 v3 v4 r4 r5 r6 r7 v5 r8 r9 v6 v7 r10 r11 v8 v9 r12 v10 v11 r13 v12 w13 r14 v14 v15 r15 r16 r17 r18 r19 r20 v16 r21 r22 r23 v17 h1 g0 f18)) hP hD [0, 1] [2, 3, 4] rfl rfl (by decide) (by decide) hk1 hFc hP1 hD1
                clear hP hD hPc hDc hKc hFc hP1 hK1 hD1 hk1 hz1
                generalize H1 = H at hP2 hS ⊢
                have hP := hP2.sub (ws' := (wd_d906eaf1 h0 v0 h1 v1 x34 (-1) 3 h2 h3 h4 r0 r1 r2 r3 v3 v4 r4 r5 r6 r7 v5 r8 r9 v6 v7 r10 r11 v8 v9 r12 v10 v11 r13 v12 w13 r14 v14 v15 r15 r16 r17 r18 r19 r20 v16 r21 r22 r23 v17 h1 g0 f18 h2 g1 fn29 h3 g2 fn30 h4 g3 fn31)) [3, 4, 0, 1, 2] rfl
                have hD := hD2.sub (ws' := (wd_d906eaf1 h0 v0 h1 v1 x34 (-1) 3 h2 h3 h4 r0 r1 r2 r3 v3 v4 r4 r5 r6 r7 v5 r8 r9 v6 v7 r10 r11 v8 v9 r12 v10 v11 r13 v12 w13 r14 v14 v15 r15 r16 r17 r18 r19 r20 v16 r21 r22 r23 v17 h1 g0 f18 h2 g1 fn29 h3 g2 fn30 h4 g3 fn31)) [3, 4, 0, 1, 2] (by decide) rfl
                clear hP2 hD2
                refine lv_goto (tgt := 79) hx hb dX12_sum_75 (by decide) ?_
                refine lv_istore_n (lv' := [(1, .int ra32), (0, .ref h0)]) hx hb dX12_sum_79 rfl hl (by decide) rfl (fun ls hl => ?_)
                refine lv_goto (tgt := 21) hx hb dX12_sum_80 (by decide) ?_
                exact ih_hL19 ra32 x34 fn29 fn30 fn31 H locs ls (by first | omega | decide) (by first | omega | decide) oa_x34 ob_x34 (by constructor <;> omega) (by exact hgR.mono (by decide)) (by first | assumption | (apply pg_row.ent <;> first | assumption | omega) | (apply pg_L.next <;> first | assumption | omega) | (apply pg_L.step <;> first | assumption | omega | (apply pg_tru.no <;> assumption) | (apply pg_tru.ok <;> assumption)) | exact pg_L.of (by omega) rfl) (by omega) (by omega) (by first | omega | (simp only [Int.toNat] at *; omega)) hP hD hS (lv_sub hl [0, 1] rfl)
            · skip
              obtain ⟨x35, x36, x37, fn38, fn39, fn40, oa_x35, ob_x35, oa_x36, ob_x36, pt0_ra22, pt1_ra22, pt2_ra22, hP1, hK1, hD1⟩ := hB
              rw [ht] at hP1
              obtain ⟨hP2, hD2⟩ := va_join (wr := []) (w1 := (wd_d906eaf1 h0 v0 h1 v1 x35 x36 x37 h2 h3 h4 r0 r1 r2 r3 v3 v4 r4 r5 r6 r7 v5 r8 r9 v6 v7 r10 r11 v8 v9 r12 v10 v11 r13 v12 w13 r14 v14 v15 r15 r16 r17 r18 r19 r20 v16 r21 r22 r23 v17 h1 g0 f18 h2 g1 fn38 h3 g2 fn39 h4 g3 fn40)) hP hD [0, 1, 2, 3, 4] [] rfl rfl (by decide) (by decide) hk1 hFc hP1 hD1
              clear hP hD hPc hDc hKc hFc hP1 hK1 hD1 hk1 hz1
              generalize H1 = H at hP2 hS ⊢
              have hP : va_P (dC, dI) vwCl (wd_d906eaf1 h0 v0 h1 v1 x35 x36 x37 h2 h3 h4 r0 r1 r2 r3 v3 v4 r4 r5 r6 r7 v5 r8 r9 v6 v7 r10 r11 v8 v9 r12 v10 v11 r13 v12 w13 r14 v14 v15 r15 r16 r17 r18 r19 r20 v16 r21 r22 r23 v17 h1 g0 f18 h2 g1 fn38 h3 g2 fn39 h4 g3 fn40) H := hP2
              have hD : va_D A (wd_d906eaf1 h0 v0 h1 v1 x35 x36 x37 h2 h3 h4 r0 r1 r2 r3 v3 v4 r4 r5 r6 r7 v5 r8 r9 v6 v7 r10 r11 v8 v9 r12 v10 v11 r13 v12 w13 r14 v14 v15 r15 r16 r17 r18 r19 r20 v16 r21 r22 r23 v17 h1 g0 f18 h2 g1 fn38 h3 g2 fn39 h4 g3 fn40) := hD2
              clear hP2 hD2
              have hgF := hgF.app pt1_ra22
              have hxl := hgF.1
              refine lv_aload_n hx hb dX12_sum_47 rfl (lv_at hl 1 rfl) ?_
              refine lv_iload_n hx hb dX12_sum_48 rfl (lv_at hl 0 rfl) ?_
              refine lv_bipush (v := 43) hx hb dX12_sum_49 (by decide) ?_
              refine lv_icmp_ne (tgt := 58) hx hb dX12_sum_51 (by decide) (fun c41 => by exfalso; have fc41 : ¬ (x9.toInt = 43) := fun h9 => c41 (Int32.toInt_inj.mp h9); omega) (fun _ => ?_)
              refine lv_iconst (v := 2) hx hb dX12_sum_54 (by decide) ?_
              refine lv_goto (tgt := 59) hx hb dX12_sum_55 (by decide) ?_
              refine lv_iconst (v := 0) hx hb dX12_sum_59 (by decide) ?_
              have hPc := hP.sub (ws' := (wd_c62683a8 h0 v0 h1 v1 x35 x36 x37 h2 h3 h4 r0 r1 r2 r3 v3 v4 r4 r5 r6 r7 v5 r8 r9 v6 v7 r10 r11 v8 v9 r12 v10 v11 r13 v12 w13 r14 v14 v15 r15 r16 r17 r18 r19 r20 v16 r21 r22 r23 v17 h2 g1 fn38 h3 g2 fn39 h4 g3 fn40)) [0, 2, 3, 4] rfl
              have hDc := hD.sub (ws' := (wd_c62683a8 h0 v0 h1 v1 x35 x36 x37 h2 h3 h4 r0 r1 r2 r3 v3 v4 r4 r5 r6 r7 v5 r8 r9 v6 v7 r10 r11 v8 v9 r12 v10 v11 r13 v12 w13 r14 v14 v15 r15 r16 r17 r18 r19 r20 v16 r21 r22 r23 v17 h2 g1 fn38 h3 g2 fn39 h4 g3 fn40)) [0, 2, 3, 4] (by decide) rfl
              have hKc := hK.sub (tys' := [(g1, .int), (g2, .int), (g3, .int)]) [1, 2, 3] rfl
              have hFc := va_free (wc := (wd_c62683a8 h0 v0 h1 v1 x35 x36 x37 h2 h3 h4 r0 r1 r2 r3 v3 v4 r4 r5 r6 r7 v5 r8 r9 v6 v7 r10 r11 v8 v9 r12 v10 v11 r13 v12 w13 r14 v14 v15 r15 r16 r17 r18 r19 r20 v16 r21 r22 r23 v17 h2 g1 fn38 h3 g2 fn39 h4 g3 fn40)) hD hS hA [0, 2, 3, 4] rfl
              refine va_callv (va_runV (As := [.int 2, .int 0]) (rest := []) ⟨hx, hb, hml, hown, hts⟩ (k_X12_put l dC dI h0 h2 h3 h4 v0 h1 v1 x35 x36 x37 r0 r1 r2 r3 v3 v4 r4 r5 r6 r7 v5 r8 r9 v6 v7 r10 r11 v8 v9 r12 v10 v11 r13 v12 w13 r14 v14 v15 r15 r16 r17 r18 r19 r20 v16 r21 r22 r23 v17 g1 fn38 g2 fn39 g3 fn40 2 0 ⟨i_v1a, i_v1b⟩ ⟨i_v3a, i_v3b⟩ ⟨i_v4a, i_v4b⟩ ⟨i_v5a, i_v5b⟩ ⟨i_v6a, i_v6b⟩ ⟨i_v7a, i_v7b⟩ ⟨i_v8a, i_v8b⟩ ⟨i_v12a, i_v12b⟩ ⟨i_v16a, i_v16b⟩ ⟨i_v17a, i_v17b⟩ (by constructor <;> omega) H.size) (cwV 2 hts g_X12_sum_3_3 rfl rfl rfl (by decide +kernel) ⟨Nat.le_of_ble_eq_true rfl, Nat.le_of_ble_eq_true rfl⟩) (pv_PV12 hPc hKc hDc (q0 := 0) rfl) rfl rfl hl.1 rfl (lv_room (Nat.le_of_ble_eq_true rfl)) dX12_sum_60 ⟨Nat.le_of_ble_eq_true rfl, Nat.le_of_ble_eq_true rfl⟩) hS (fun q _ h => hFc q h) hFc (fun u t H1 locs ht hvm hwra42 hB hz1 hk1 hS => ?_)
              have hkra42_0 : ((0 : Int32)).toInt = 0 := by decide
              have hkra42_1 : ((2 : Int32)).toInt = 2 := by decide
              obtain ⟨fn43, fn44, fn45, pt0_ra42, hP1, hK1, hD1⟩ := hB
              rw [ht] at hP1
              obtain ⟨hP2, hD2⟩ := va_join (wr := (wd_d0032b31 h1 g0 f18)) (w1 := (wd_c62683a8 h0 v0 h1 v1 x35 x36 x37 h2 h3 h4 r0 r1 r2 r3 v3 v4 r4 r5 r6 r7 v5 r8 r9 v6 v7 r10 r11 v8 v9 r12 v10 v11 r13 v12 w13 r14 v14 v15 r15 r16 r17 r18 r19 r20 v16 r21 r22 r23 v17 h2 g1 fn43 h3 g2 fn44 h4 g3 fn45)) hP hD [0, 2, 3, 4] [1] rfl rfl (by decide) (by decide) hk1 hFc hP1 hD1
              clear hP hD hPc hDc hKc hFc hP1 hK1 hD1 hk1 hz1
              generalize H1 = H at hP2 hS ⊢
              have hP := hP2.sub (ws' := (wd_d906eaf1 h0 v0 h1 v1 x35 x36 x37 h2 h3 h4 r0 r1 r2 r3 v3 v4 r4 r5 r6 r7 v5 r8 r9 v6 v7 r10 r11 v8 v9 r12 v10 v11 r13 v12 w13 r14 v14 v15 r15 r16 r17 r18 r19 r20 v16 r21 r22 r23 v17 h1 g0 f18 h2 g1 fn43 h3 g2 fn44 h4 g3 fn45)) [1, 0, 2, 3, 4] rfl
              have hD := hD2.sub (ws' := (wd_d906eaf1 h0 v0 h1 v1 x35 x36 x37 h2 h3 h4 r0 r1 r2 r3 v3 v4 r4 r5 r6 r7 v5 r8 r9 v6 v7 r10 r11 v8 v9 r12 v10 v11 r13 v12 w13 r14 v14 v15 r15 r16 r17 r18 r19 r20 v16 r21 r22 r23 v17 h1 g0 f18 h2 g1 fn43 h3 g2 fn44 h4 g3 fn45)) [1, 0, 2, 3, 4] (by decide) rfl
              clear hP2 hD2
              have hgF := hgF.put pt0_ra42
              have hxl := hgF.1
              have hxs := pt0_ra42.step
              refine lv_aload_n hx hb dX12_sum_63 rfl (lv_at hl 1 rfl) ?_
              refine va_get (D := (dC, dI)) (ci := 12) (v := .int x36) (C := RX12) (T := TX12) (N := 48) hx hb hts (fun _ h => List.mem_cons_of_mem _ (List.mem_append_right _ h)) hown hK hP 0 rfl rfl 4 (by decide) (hts (.fieldLink RX12 119 "LeftArgumentsModel" "wrong" "I") (List.mem_cons_of_mem _ (List.mem_append_left _ (List.mem_of_getElem? (i := 21) rfl)))) (fun _ h9 => h9) rfl dX12_sum_64 ?_
              refine lv_iconst (v := (-1)) hx hb dX12_sum_67 (by decide) ?_
              refine lv_icmp_ne (tgt := 78) hx hb dX12_sum_68 (by decide) (fun _ => ?_) (fun c46 => by exfalso; have fc46 : x36.toInt = (-1) := congrArg Int32.toInt c46; omega)
              refine lv_iconst (v := (-1)) hx hb dX12_sum_78 (by decide) ?_
              refine lv_istore_n (lv' := [(1, .int (-1)), (0, .ref h0)]) hx hb dX12_sum_79 rfl hl (by decide) rfl (fun ls hl => ?_)
              refine lv_goto (tgt := 21) hx hb dX12_sum_80 (by decide) ?_
              refine lv_iload_n hx hb dX12_sum_21 rfl (lv_at hl 0 rfl) ?_
              refine lv_bipush (v := 43) hx hb dX12_sum_22 (by decide) ?_
              refine lv_icmp_eq (tgt := 33) hx hb dX12_sum_24 (by decide) (fun c => absurd c (by decide)) (fun _ => ?_)
              refine lv_iload_n hx hb dX12_sum_27 rfl (lv_at hl 0 rfl) ?_
              refine lv_bipush (v := 45) hx hb dX12_sum_28 (by decide) ?_
              refine lv_icmp_ne (tgt := 83) hx hb dX12_sum_30 (by decide) (fun _ => ?_) (fun c => absurd c (by decide))
              subst hQ
              have hP9 := hP.sub (ws' := (wd_d906eaf1 h0 v0 h1 v1 x35 x36 x37 h2 h3 h4 r0 r1 r2 r3 v3 v4 r4 r5 r6 r7 v5 r8 r9 v6 v7 r10 r11 v8 v9 r12 v10 v11 r13 v12 w13 r14 v14 v15 r15 r16 r17 r18 r19 r20 v16 r21 r22 r23 v17 h1 g0 f18 h2 g1 fn43 h3 g2 fn44 h4 g3 fn45)) [0, 1, 2, 3, 4] rfl
              have hD9 := hD.sub (ws' := (wd_d906eaf1 h0 v0 h1 v1 x35 x36 x37 h2 h3 h4 r0 r1 r2 r3 v3 v4 r4 r5 r6 r7 v5 r8 r9 v6 v7 r10 r11 v8 v9 r12 v10 v11 r13 v12 w13 r14 v14 v15 r15 r16 r17 r18 r19 r20 v16 r21 r22 r23 v17 h1 g0 f18 h2 g1 fn43 h3 g2 fn44 h4 g3 fn45)) [0, 1, 2, 3, 4] (by decide) rfl
              have hK9 := hK.sub (tys' := []) [] rfl
              exact W.vret hx hb hr (fun t ht hW => ⟨⟨(), rfl, trivial, Or.inr (⟨x35, x36, x37, fn43, fn44, fn45, oa_x35, ob_x35, oa_x36, ob_x36, by constructor <;> omega, by exact hgF, by rw [pg_sum.eq]; first | assumption | (apply pg_row.no <;> first | assumption | omega) | (apply pg_L.fail <;> first | assumption | omega), by rw [ht]; exact hP9, va_K.moved hW.alike hK9, hD9⟩)⟩, hS.F ht⟩) hS.2.2 dX12_sum_83
          · skip
            have fc20 : ¬ (x9.toInt = 43) := fun h9 => c20 (Int32.toInt_inj.mp h9)
            refine lv_iload_n hx hb dX12_sum_27 rfl (lv_at hl 0 rfl) ?_
            refine lv_bipush (v := 45) hx hb dX12_sum_28 (by decide) ?_
            refine lv_icmp_ne (tgt := 83) hx hb dX12_sum_30 (by decide) (fun c47 => ?_) (fun c47 => ?_)
            · skip
              have fc47 : ¬ (x9.toInt = 45) := fun h9 => c47 (Int32.toInt_inj.mp h9)
              subst hQ
              have hP9 := hP.sub (ws' := (wd_d906eaf1 h0 v0 h1 v1 x10 (-1) 3 h2 h3 h4 r0 r1 r2 r3 v3 v4 r4 r5 r6 r7 v5 r8 r9 v6 v7 r10 r11 v8 v9 r12 v10 v11 r13 v12 w13 r14 v14 v15 r15 r16 r17 r18 r19 r20 v16 r21 r22 r23 v17 h1 g0 f18 h2 g1 fn11 h3 g2 fn12 h4 g3 fn13)) [0, 1, 2, 3, 4] rfl
              have hD9 := hD.sub (ws' := (wd_d906eaf1 h0 v0 h1 v1 x10 (-1) 3 h2 h3 h4 r0 r1 r2 r3 v3 v4 r4 r5 r6 r7 v5 r8 r9 v6 v7 r10 r11 v8 v9 r12 v10 v11 r13 v12 w13 r14 v14 v15 r15 r16 r17 r18 r19 r20 v16 r21 r22 r23 v17 h1 g0 f18 h2 g1 fn11 h3 g2 fn12 h4 g3 fn13)) [0, 1, 2, 3, 4] (by decide) rfl
              have hK9 := hK.sub (tys' := []) [] rfl
              exact W.vret hx hb hr (fun t ht hW => ⟨⟨(), rfl, trivial, Or.inl ⟨x10, fn11, fn12, fn13, qa_x10, by first | omega | decide, by constructor <;> omega, by exact hgR.mono (by decide), by rw [pg_sum.eq]; first | assumption | (apply pg_row.st <;> first | assumption | omega) | (apply pg_L.out <;> first | assumption | omega) | (apply pg_L.last <;> first | assumption | omega), by rw [ht]; exact hP9, va_K.moved hW.alike hK9, hD9⟩⟩, hS.F ht⟩) hS.2.2 dX12_sum_83
            · skip
              have fc47 : x9.toInt = 45 := congrArg Int32.toInt c47
              refine lv_aload_n hx hb dX12_sum_33 rfl (lv_at hl 1 rfl) ?_
              refine lv_dup hx hb dX12_sum_34 rfl ?_
              refine va_get (D := (dC, dI)) (ci := 12) (v := .int x10) (C := RX12) (T := TX12) (N := 48) hx hb hts (fun _ h => List.mem_cons_of_mem _ (List.mem_append_right _ h)) hown hK hP 0 rfl rfl 3 (by decide) (hts (.fieldLink RX12 112 "LeftArgumentsModel" "at" "I") (List.mem_cons_of_mem _ (List.mem_append_left _ (List.mem_of_getElem? (i := 4) rfl)))) (fun _ h9 => h9) rfl dX12_sum_35 ?_
              refine lv_iconst (v := 1) hx hb dX12_sum_38 (by decide) ?_
              refine lv_iadd hx hb dX12_sum_39 ?_
              refine lv_topi (fun t48 et48 => ?_)
              have gt48 : t48.toInt = x10.toInt + 1 := pv_add (a := x10.toInt) (b := 1) et48 rfl (by decide) (by omega) (by omega)
              refine va_put (D := (dC, dI)) (ci := 12) (v := .int t48) (ty := .int) (C := RX12) (T := TX12) (N := 48) hx hb hts (fun _ h => List.mem_cons_of_mem _ (List.mem_append_right _ h)) tyX12 tyX12_ok nmX12 hown hK hP hD hS 0 rfl rfl 3 (by decide) (hts (.fieldLink RX12 112 "LeftArgumentsModel" "at" "I") (List.mem_cons_of_mem _ (List.mem_append_left _ (List.mem_of_getElem? (i := 4) rfl)))) (fun _ h9 => h9) rfl (by decide +kernel) rfl rfl (Nat.le_of_ble_eq_true rfl) dX12_sum_40 (fun H locs hP hD hS => ?_)
              have hP : va_P (dC, dI) vwCl (wd_d906eaf1 h0 v0 h1 v1 t48 (-1) 3 h2 h3 h4 r0 r1 r2 r3 v3 v4 r4 r5 r6 r7 v5 r8 r9 v6 v7 r10 r11 v8 v9 r12 v10 v11 r13 v12 w13 r14 v14 v15 r15 r16 r17 r18 r19 r20 v16 r21 r22 r23 v17 h1 g0 f18 h2 g1 fn11 h3 g2 fn12 h4 g3 fn13) H := hP
              have hD : va_D A (wd_d906eaf1 h0 v0 h1 v1 t48 (-1) 3 h2 h3 h4 r0 r1 r2 r3 v3 v4 r4 r5 r6 r7 v5 r8 r9 v6 v7 r10 r11 v8 v9 r12 v10 v11 r13 v12 w13 r14 v14 v15 r15 r16 r17 r18 r19 r20 v16 r21 r22 r23 v17 h1 g0 f18 h2 g1 fn11 h3 g2 fn12 h4 g3 fn13) := hD
              refine lv_aload_n hx hb dX12_sum_43 rfl (lv_at hl 1 rfl) ?_
              have hPc := hP.sub (ws' := (wd_d906eaf1 h0 v0 h1 v1 t48 (-1) 3 h2 h3 h4 r0 r1 r2 r3 v3 v4 r4 r5 r6 r7 v5 r8 r9 v6 v7 r10 r11 v8 v9 r12 v10 v11 r13 v12 w13 r14 v14 v15 r15 r16 r17 r18 r19 r20 v16 r21 r22 r23 v17 h1 g0 f18 h2 g1 fn11 h3 g2 fn12 h4 g3 fn13)) [0, 1, 2, 3, 4] rfl
              have hDc := hD.sub (ws' := (wd_d906eaf1 h0 v0 h1 v1 t48 (-1) 3 h2 h3 h4 r0 r1 r2 r3 v3 v4 r4 r5 r6 r7 v5 r8 r9 v6 v7 r10 r11 v8 v9 r12 v10 v11 r13 v12 w13 r14 v14 v15 r15 r16 r17 r18 r19 r20 v16 r21 r22 r23 v17 h1 g0 f18 h2 g1 fn11 h3 g2 fn12 h4 g3 fn13)) [0, 1, 2, 3, 4] (by decide) rfl
              have hKc := hK.sub (tys' := [(g0, .int), (g1, .int), (g2, .int), (g3, .int)]) [0, 1, 2, 3] rfl
              have hFc := va_free (wc := (wd_d906eaf1 h0 v0 h1 v1 t48 (-1) 3 h2 h3 h4 r0 r1 r2 r3 v3 v4 r4 r5 r6 r7 v5 r8 r9 v6 v7 r10 r11 v8 v9 r12 v10 v11 r13 v12 w13 r14 v14 v15 r15 r16 r17 r18 r19 r20 v16 r21 r22 r23 v17 h1 g0 f18 h2 g1 fn11 h3 g2 fn12 h4 g3 fn13)) hD hS hA [0, 1, 2, 3, 4] rfl
              refine va_callv (va_runV (As := []) (rest := []) ⟨hx, hb, hml, hown, hts⟩ (k_X12_term_3 l dC dI h0 h1 h2 h3 h4 v0 v1 t48 r0 r1 r2 r3 v3 v4 r4 r5 r6 r7 v5 r8 r9 v6 v7 r10 r11 v8 v9 r12 v10 v11 r13 v12 w13 r14 v14 v15 r15 r16 r17 r18 r19 r20 v16 r21 r22 r23 v17 g0 f18 g1 fn11 g2 fn12 g3 fn13 ⟨i_v1a, i_v1b⟩ ⟨by first | omega | decide, by first | omega | decide⟩ ⟨i_v3a, i_v3b⟩ ⟨i_v4a, i_v4b⟩ ⟨i_v5a, i_v5b⟩ ⟨i_v6a, i_v6b⟩ ⟨i_v7a, i_v7b⟩ ⟨i_v8a, i_v8b⟩ ⟨i_v12a, i_v12b⟩ ⟨i_v16a, i_v16b⟩ ⟨i_v17a, i_v17b⟩ ia_f18 (by constructor <;> omega) H.size) (cwV 0 hts g_X12_sum_3_0 rfl rfl rfl (by decide +kernel) ⟨Nat.le_of_ble_eq_true rfl, Nat.le_of_ble_eq_true rfl⟩) (pv_PV12 hPc hKc hDc (q0 := 0) rfl) rfl rfl hl.1 rfl (lv_room (Nat.le_of_ble_eq_true rfl)) dX12_sum_44 ⟨Nat.le_of_ble_eq_true rfl, Nat.le_of_ble_eq_true rfl⟩) hS (fun q _ h => hFc q h) hFc (fun u t H1 locs ht hvm hwra49 hB hz1 hk1 hS => ?_)
              rcases hB with hB | hB
              · skip
                obtain ⟨x50, fn51, fn52, fn53, oa_x50, ob_x50, pt0_ra49, pt1_ra49, pt2_ra49, hP1, hK1, hD1⟩ := hB
                rw [ht] at hP1
                obtain ⟨hP2, hD2⟩ := va_join (wr := []) (w1 := (wd_d906eaf1 h0 v0 h1 v1 x50 (-1) 3 h2 h3 h4 r0 r1 r2 r3 v3 v4 r4 r5 r6 r7 v5 r8 r9 v6 v7 r10 r11 v8 v9 r12 v10 v11 r13 v12 w13 r14 v14 v15 r15 r16 r17 r18 r19 r20 v16 r21 r22 r23 v17 h1 g0 f18 h2 g1 fn51 h3 g2 fn52 h4 g3 fn53)) hP hD [0, 1, 2, 3, 4] [] rfl rfl (by decide) (by decide) hk1 hFc hP1 hD1
                clear hP hD hPc hDc hKc hFc hP1 hK1 hD1 hk1 hz1
                generalize H1 = H at hP2 hS ⊢
                have hP : va_P (dC, dI) vwCl (wd_d906eaf1 h0 v0 h1 v1 x50 (-1) 3 h2 h3 h4 r0 r1 r2 r3 v3 v4 r4 r5 r6 r7 v5 r8 r9 v6 v7 r10 r11 v8 v9 r12 v10 v11 r13 v12 w13 r14 v14 v15 r15 r16 r17 r18 r19 r20 v16 r21 r22 r23 v17 h1 g0 f18 h2 g1 fn51 h3 g2 fn52 h4 g3 fn53) H := hP2
                have hD : va_D A (wd_d906eaf1 h0 v0 h1 v1 x50 (-1) 3 h2 h3 h4 r0 r1 r2 r3 v3 v4 r4 r5 r6 r7 v5 r8 r9 v6 v7 r10 r11 v8 v9 r12 v10 v11 r13 v12 w13 r14 v14 v15 r15 r16 r17 r18 r19 r20 v16 r21 r22 r23 v17 h1 g0 f18 h2 g1 fn51 h3 g2 fn52 h4 g3 fn53) := hD2
                clear hP2 hD2
                have hgR := hgR.app (k' := 2) (D := 9) pt1_ra49 (by decide) (by decide) (by decide) (by decide)
                have hgF := hgR.1
                have hxl := hgF.1
                refine lv_aload_n hx hb dX12_sum_47 rfl (lv_at hl 1 rfl) ?_
                refine lv_iload_n hx hb dX12_sum_48 rfl (lv_at hl 0 rfl) ?_
                refine lv_bipush (v := 43) hx hb dX12_sum_49 (by decide) ?_
                refine lv_icmp_ne (tgt := 58) hx hb dX12_sum_51 (by decide) (fun _ => ?_) (fun c54 => by exfalso; have fc54 : x9.toInt = 43 := congrArg Int32.toInt c54; omega)
                refine lv_iconst (v := 3) hx hb dX12_sum_58 (by decide) ?_
                refine lv_iconst (v := 0) hx hb dX12_sum_59 (by decide) ?_
                have hPc := hP.sub (ws' := (wd_c62683a8 h0 v0 h1 v1 x50 (-1) 3 h2 h3 h4 r0 r1 r2 r3 v3 v4 r4 r5 r6 r7 v5 r8 r9 v6 v7 r10 r11 v8 v9 r12 v10 v11 r13 v12 w13 r14 v14 v15 r15 r16 r17 r18 r19 r20 v16 r21 r22 r23 v17 h2 g1 fn51 h3 g2 fn52 h4 g3 fn53)) [0, 2, 3, 4] rfl
                have hDc := hD.sub (ws' := (wd_c62683a8 h0 v0 h1 v1 x50 (-1) 3 h2 h3 h4 r0 r1 r2 r3 v3 v4 r4 r5 r6 r7 v5 r8 r9 v6 v7 r10 r11 v8 v9 r12 v10 v11 r13 v12 w13 r14 v14 v15 r15 r16 r17 r18 r19 r20 v16 r21 r22 r23 v17 h2 g1 fn51 h3 g2 fn52 h4 g3 fn53)) [0, 2, 3, 4] (by decide) rfl
                have hKc := hK.sub (tys' := [(g1, .int), (g2, .int), (g3, .int)]) [1, 2, 3] rfl
                have hFc := va_free (wc := (wd_c62683a8 h0 v0 h1 v1 x50 (-1) 3 h2 h3 h4 r0 r1 r2 r3 v3 v4 r4 r5 r6 r7 v5 r8 r9 v6 v7 r10 r11 v8 v9 r12 v10 v11 r13 v12 w13 r14 v14 v15 r15 r16 r17 r18 r19 r20 v16 r21 r22 r23 v17 h2 g1 fn51 h3 g2 fn52 h4 g3 fn53)) hD hS hA [0, 2, 3, 4] rfl
                refine va_callv (va_runV (As := [.int 3, .int 0]) (rest := []) ⟨hx, hb, hml, hown, hts⟩ (k_X12_put l dC dI h0 h2 h3 h4 v0 h1 v1 x50 ((-1)) 3 r0 r1 r2 r3 v3 v4 r4 r5 r6 r7 v5 r8 r9 v6 v7 r10 r11 v8 v9 r12 v10 v11 r13 v12 w13 r14 v14 v15 r15 r16 r17 r18 r19 r20 v16 r21 r22 r23 v17 g1 fn51 g2 fn52 g3 fn53 3 0 ⟨i_v1a, i_v1b⟩ ⟨i_v3a, i_v3b⟩ ⟨i_v4a, i_v4b⟩ ⟨i_v5a, i_v5b⟩ ⟨i_v6a, i_v6b⟩ ⟨i_v7a, i_v7b⟩ ⟨i_v8a, i_v8b⟩ ⟨i_v12a, i_v12b⟩ ⟨i_v16a, i_v16b⟩ ⟨i_v17a, i_v17b⟩ (by constructor <;> omega) H.size) (cwV 2 hts g_X12_sum_3_3 rfl rfl rfl (by decide +kernel) ⟨Nat.le_of_ble_eq_true rfl, Nat.le_of_ble_eq_true rfl⟩) (pv_PV12 hPc hKc hDc (q0 := 0) rfl) rfl rfl hl.1 rfl (lv_room (Nat.le_of_ble_eq_true rfl)) dX12_sum_60 ⟨Nat.le_of_ble_eq_true rfl, Nat.le_of_ble_eq_true rfl⟩) hS (fun q _ h => hFc q h) hFc (fun u t H1 locs ht hvm hwra55 hB hz1 hk1 hS => ?_)
                have hkra55_0 : (((-1) : Int32)).toInt = -1 := by decide
                have hkra55_1 : ((0 : Int32)).toInt = 0 := by decide
                have hkra55_2 : ((3 : Int32)).toInt = 3 := by decide
                obtain ⟨fn56, fn57, fn58, pt0_ra55, hP1, hK1, hD1⟩ := hB
                rw [ht] at hP1
                obtain ⟨hP2, hD2⟩ := va_join (wr := (wd_d0032b31 h1 g0 f18)) (w1 := (wd_c62683a8 h0 v0 h1 v1 x50 (-1) 3 h2 h3 h4 r0 r1 r2 r3 v3 v4 r4 r5 r6 r7 v5 r8 r9 v6 v7 r10 r11 v8 v9 r12 v10 v11 r13 v12 w13 r14 v14 v15 r15 r16 r17 r18 r19 r20 v16 r21 r22 r23 v17 h2 g1 fn56 h3 g2 fn57 h4 g3 fn58)) hP hD [0, 2, 3, 4] [1] rfl rfl (by decide) (by decide) hk1 hFc hP1 hD1
                clear hP hD hPc hDc hKc hFc hP1 hK1 hD1 hk1 hz1
                generalize H1 = H at hP2 hS ⊢
                have hP := hP2.sub (ws' := (wd_d906eaf1 h0 v0 h1 v1 x50 (-1) 3 h2 h3 h4 r0 r1 r2 r3 v3 v4 r4 r5 r6 r7 v5 r8 r9 v6 v7 r10 r11 v8 v9 r12 v10 v11 r13 v12 w13 r14 v14 v15 r15 r16 r17 r18 r19 r20 v16 r21 r22 r23 v17 h1 g0 f18 h2 g1 fn56 h3 g2 fn57 h4 g3 fn58)) [1, 0, 2, 3, 4] rfl
                have hD := hD2.sub (ws' := (wd_d906eaf1 h0 v0 h1 v1 x50 (-1) 3 h2 h3 h4 r0 r1 r2 r3 v3 v4 r4 r5 r6 r7 v5 r8 r9 v6 v7 r10 r11 v8 v9 r12 v10 v11 r13 v12 w13 r14 v14 v15 r15 r16 r17 r18 r19 r20 v16 r21 r22 r23 v17 h1 g0 f18 h2 g1 fn56 h3 g2 fn57 h4 g3 fn58)) [1, 0, 2, 3, 4] (by decide) rfl
                clear hP2 hD2
                have hgR := hgR.bin (k' := 1) (D := 9) pt0_ra55 (by decide) (by decide) (by decide) (by decide) (by decide)
                have hgF := hgR.1
                have hxl := hgF.1
                have hxs := pt0_ra55.step
                refine lv_aload_n hx hb dX12_sum_63 rfl (lv_at hl 1 rfl) ?_
                refine va_get (D := (dC, dI)) (ci := 12) (v := .int (-1)) (C := RX12) (T := TX12) (N := 48) hx hb hts (fun _ h => List.mem_cons_of_mem _ (List.mem_append_right _ h)) hown hK hP 0 rfl rfl 4 (by decide) (hts (.fieldLink RX12 119 "LeftArgumentsModel" "wrong" "I") (List.mem_cons_of_mem _ (List.mem_append_left _ (List.mem_of_getElem? (i := 21) rfl)))) (fun _ h9 => h9) rfl dX12_sum_64 ?_
                refine lv_iconst (v := (-1)) hx hb dX12_sum_67 (by decide) ?_
                refine lv_icmp_ne (tgt := 78) hx hb dX12_sum_68 (by decide) (fun c => absurd (by decide) c) (fun _ => ?_)
                refine lv_aload_n hx hb dX12_sum_71 rfl (lv_at hl 1 rfl) ?_
                have hPc := hP.sub (ws' := (wd_f4cd022e h0 v0 h1 v1 x50 (-1) 3 h2 h3 h4 r0 r1 r2 r3 v3 v4 r4 r5 r6 r7 v5 r8 r9 v6 v7 r10 r11 v8 v9 r12 v10 v11 r13 v12 w13 r14 v14 v15 r15 r16 r17 r18 r19 r20 v16 r21 r22 r23 v17 h1 g0 f18)) [0, 1] rfl
                have hDc := hD.sub (ws' := (wd_f4cd022e h0 v0 h1 v1 x50 (-1) 3 h2 h3 h4 r0 r1 r2 r3 v3 v4 r4 r5 r6 r7 v5 r8 r9 v6 v7 r10 r11 v8 v9 r12 v10 v11 r13 v12 w13 r14 v14 v15 r15 r16 r17 r18 r19 r20 v16 r21 r22 r23 v17 h1 g0 f18)) [0, 1] (by decide) rfl
                have hKc := hK.sub (tys' := [(g0, .int)]) [0] rfl
                have hFc := va_free (wc := (wd_f4cd022e h0 v0 h1 v1 x50 (-1) 3 h2 h3 h4 r0 r1 r2 r3 v3 v4 r4 r5 r6 r7 v5 r8 r9 v6 v7 r10 r11 v8 v9 r12 v10 v11 r13 v12 w13 r14 v14 v15 r15 r16 r17 r18 r19 r20 v16 r21 r22 r23 v17 h1 g0 f18)) hD hS hA [0, 1] rfl
                refine va_calli (va_runV (As := []) (rest := []) ⟨hx, hb, hml, hown, hts⟩ (k_X12_look l dC dI h0 h1 v0 v1 x50 ((-1)) 3 h2 h3 h4 r0 r1 r2 r3 v3 v4 r4 r5 r6 r7 v5 r8 r9 v6 v7 r10 r11 v8 v9 r12 v10 v11 r13 v12 w13 r14 v14 v15 r15 r16 r17 r18 r19 r20 v16 r21 r22 r23 v17 g0 f18 ⟨i_v1a, i_v1b⟩ ⟨oa_x50, ob_x50⟩ ⟨i_v3a, i_v3b⟩ ⟨i_v4a, i_v4b⟩ ⟨i_v5a, i_v5b⟩ ⟨i_v6a, i_v6b⟩ ⟨i_v7a, i_v7b⟩ ⟨i_v8a, i_v8b⟩ ⟨i_v12a, i_v12b⟩ ⟨i_v16a, i_v16b⟩ ⟨i_v17a, i_v17b⟩ ia_f18 H.size) (cwV 0 hts g_X12_sum_3_1 rfl rfl rfl (by decide +kernel) ⟨Nat.le_of_ble_eq_true rfl, Nat.le_of_ble_eq_true rfl⟩) (pv_PV12 hPc hKc hDc (q0 := 0) rfl) rfl rfl hl.1 rfl (lv_room (Nat.le_of_ble_eq_true rfl)) dX12_sum_72 ⟨Nat.le_of_ble_eq_true rfl, Nat.le_of_ble_eq_true rfl⟩) hS (fun q _ h => hFc q h) hFc (fun ra59 u t H1 locs ht hvm hwra59 hB hz1 hk1 hS => ?_)
                try rw [hwra59] at hB
                have hkra59_0 : (((-1) : Int32)).toInt = -1 := by decide
                have hkra59_1 : ((3 : Int32)).toInt = 3 := by decide
                rcases hB with hB | hB
                · skip
                  obtain ⟨x60, oa_x60, ob_x60, pt0_ra59, pt1_ra59, pt2_ra59, pt3_ra59, pt4_ra59, pt5_ra59, pt6_ra59, hP1, hK1, hD1⟩ := hB
                  rw [ht] at hP1
                  obtain ⟨hP2, hD2⟩ := va_join (wr := (wd_ad0642e8 h2 g1 fn56 h3 g2 fn57 h4 g3 fn58)) (w1 := (wd_f4cd022e h0 v0 h1 v1 x60 (-1) 3 h2 h3 h4 r0 r1 r2 r3 v3 v4 r4 r5 r6 r7 v5 r8 r9 v6 v7 r10 r11 v8 v9 r12 v10 v11 r13 v12 w13 r14 v14 v15 r15 r16 r17 r18 r19 r20 v16 r21 r22 r23 v17 h1 g0 f18)) hP hD [0, 1] [2, 3, 4] rfl rfl (by decide) (by decide) hk1 hFc hP1 hD1
                  clear hP hD hPc hDc hKc hFc hP1 hK1 hD1 hk1 hz1
                  generalize H1 = H at hP2 hS ⊢
                  have hP := hP2.sub (ws' := (wd_d906eaf1 h0 v0 h1 v1 x60 (-1) 3 h2 h3 h4 r0 r1 r2 r3 v3 v4 r4 r5 r6 r7 v5 r8 r9 v6 v7 r10 r11 v8 v9 r12 v10 v11 r13 v12 w13 r14 v14 v15 r15 r16 r17 r18 r19 r20 v16 r21 r22 r23 v17 h1 g0 f18 h2 g1 fn56 h3 g2 fn57 h4 g3 fn58)) [3, 4, 0, 1, 2] rfl
                  have hD := hD2.sub (ws' := (wd_d906eaf1 h0 v0 h1 v1 x60 (-1) 3 h2 h3 h4 r0 r1 r2 r3 v3 v4 r4 r5 r6 r7 v5 r8 r9 v6 v7 r10 r11 v8 v9 r12 v10 v11 r13 v12 w13 r14 v14 v15 r15 r16 r17 r18 r19 r20 v16 r21 r22 r23 v17 h1 g0 f18 h2 g1 fn56 h3 g2 fn57 h4 g3 fn58)) [3, 4, 0, 1, 2] (by decide) rfl
                  clear hP2 hD2
                  obtain rfl : ra59 = ((-1) : Int32) := pv_cs (by decide) pt0_ra59 pt1_ra59
                  refine lv_goto (tgt := 79) hx hb dX12_sum_75 (by decide) ?_
                  refine lv_istore_n (lv' := [(1, .int (-1)), (0, .ref h0)]) hx hb dX12_sum_79 rfl hl (by decide) rfl (fun ls hl => ?_)
                  refine lv_goto (tgt := 21) hx hb dX12_sum_80 (by decide) ?_
                  refine lv_iload_n hx hb dX12_sum_21 rfl (lv_at hl 0 rfl) ?_
                  refine lv_bipush (v := 43) hx hb dX12_sum_22 (by decide) ?_
                  refine lv_icmp_eq (tgt := 33) hx hb dX12_sum_24 (by decide) (fun c => absurd c (by decide)) (fun _ => ?_)
                  refine lv_iload_n hx hb dX12_sum_27 rfl (lv_at hl 0 rfl) ?_
                  refine lv_bipush (v := 45) hx hb dX12_sum_28 (by decide) ?_
                  refine lv_icmp_ne (tgt := 83) hx hb dX12_sum_30 (by decide) (fun _ => ?_) (fun c => absurd c (by decide))
                  subst hQ
                  have hP9 := hP.sub (ws' := (wd_d906eaf1 h0 v0 h1 v1 x60 (-1) 3 h2 h3 h4 r0 r1 r2 r3 v3 v4 r4 r5 r6 r7 v5 r8 r9 v6 v7 r10 r11 v8 v9 r12 v10 v11 r13 v12 w13 r14 v14 v15 r15 r16 r17 r18 r19 r20 v16 r21 r22 r23 v17 h1 g0 f18 h2 g1 fn56 h3 g2 fn57 h4 g3 fn58)) [0, 1, 2, 3, 4] rfl
                  have hD9 := hD.sub (ws' := (wd_d906eaf1 h0 v0 h1 v1 x60 (-1) 3 h2 h3 h4 r0 r1 r2 r3 v3 v4 r4 r5 r6 r7 v5 r8 r9 v6 v7 r10 r11 v8 v9 r12 v10 v11 r13 v12 w13 r14 v14 v15 r15 r16 r17 r18 r19 r20 v16 r21 r22 r23 v17 h1 g0 f18 h2 g1 fn56 h3 g2 fn57 h4 g3 fn58)) [0, 1, 2, 3, 4] (by decide) rfl
                  have hK9 := hK.sub (tys' := []) [] rfl
                  exact W.vret hx hb hr (fun t ht hW => ⟨⟨(), rfl, trivial, Or.inl ⟨x60, fn56, fn57, fn58, oa_x60, ob_x60, by constructor <;> omega, by exact hgR.mono (by decide), by rw [pg_sum.eq]; first | assumption | (apply pg_row.st <;> first | assumption | omega) | (apply pg_L.out <;> first | assumption | omega) | (apply pg_L.last <;> first | assumption | omega), by rw [ht]; exact hP9, va_K.moved hW.alike hK9, hD9⟩⟩, hS.F ht⟩) hS.2.2 dX12_sum_83
                · skip
                  obtain ⟨x61, oa_x61, ob_x61, pt0_ra59, pt1_ra59, pt2_ra59, pt3_ra59, pt4_ra59, pt5_ra59, pt6_ra59, pt7_ra59, hP1, hK1, hD1⟩ := hB
                  rw [ht] at hP1
                  obtain ⟨hP2, hD2⟩ := va_join (wr := (wd_ad0642e8 h2 g1 fn56 h3 g2 fn57 h4 g3 fn58)) (w1 := (wd_f4cd022e h0 v0 h1 v1 x61 (-1) 3 h2 h3 h4 r0 r1 r2 r3 v3 v4 r4 r5 r6 r7 v5 r8 r9 v6 v7 r10 r11 v8 v9 r12 v10 v11 r13 v12 w13 r14 v14 v15 r15 r16 r17 r18 r19 r20 v16 r21 r22 r23 v17 h1 g0 f18)) hP hD [0, 1] [2, 3, 4] rfl rfl (by decide) (by decide) hk1 hFc hP1 hD1
                  clear hP hD hPc hDc hKc hFc hP1 hK1 hD1 hk1 hz1
                  generalize H1 = H at hP2 hS ⊢
                  have hP := hP2.sub (ws' := (wd_d906eaf1 h0 v0 h1 v1 x61 (-1) 3 h2 h3 h4 r0 r1 r2 r3 v3 v4 r4 r5 r6 r7 v5 r8 r9 v6 v7 r10 r11 v8 v9 r12 v10 v11 r13 v12 w13 r14 v14 v15 r15 r16 r17 r18 r19 r20 v16 r21 r22 r23 v17 h1 g0 f18 h2 g1 fn56 h3 g2 fn57 h4 g3 fn58)) [3, 4, 0, 1, 2] rfl
                  have hD := hD2.sub (ws' := (wd_d906eaf1 h0 v0 h1 v1 x61 (-1) 3 h2 h3 h4 r0 r1 r2 r3 v3 v4 r4 r5 r6 r7 v5 r8 r9 v6 v7 r10 r11 v8 v9 r12 v10 v11 r13 v12 w13 r14 v14 v15 r15 r16 r17 r18 r19 r20 v16 r21 r22 r23 v17 h1 g0 f18 h2 g1 fn56 h3 g2 fn57 h4 g3 fn58)) [3, 4, 0, 1, 2] (by decide) rfl
                  clear hP2 hD2
                  refine lv_goto (tgt := 79) hx hb dX12_sum_75 (by decide) ?_
                  refine lv_istore_n (lv' := [(1, .int ra59), (0, .ref h0)]) hx hb dX12_sum_79 rfl hl (by decide) rfl (fun ls hl => ?_)
                  refine lv_goto (tgt := 21) hx hb dX12_sum_80 (by decide) ?_
                  exact ih_hL19 ra59 x61 fn56 fn57 fn58 H locs ls (by first | omega | decide) (by first | omega | decide) oa_x61 ob_x61 (by constructor <;> omega) (by exact hgR.mono (by decide)) (by first | assumption | (apply pg_row.ent <;> first | assumption | omega) | (apply pg_L.next <;> first | assumption | omega) | (apply pg_L.step <;> first | assumption | omega | (apply pg_tru.no <;> assumption) | (apply pg_tru.ok <;> assumption)) | exact pg_L.of (by omega) rfl) (by omega) (by omega) (by first | omega | (simp only [Int.toNat] at *; omega)) hP hD hS (lv_sub hl [0, 1] rfl)
              · skip
                obtain ⟨x62, x63, x64, fn65, fn66, fn67, oa_x62, ob_x62, oa_x63, ob_x63, pt0_ra49, pt1_ra49, pt2_ra49, hP1, hK1, hD1⟩ := hB
                rw [ht] at hP1
                obtain ⟨hP2, hD2⟩ := va_join (wr := []) (w1 := (wd_d906eaf1 h0 v0 h1 v1 x62 x63 x64 h2 h3 h4 r0 r1 r2 r3 v3 v4 r4 r5 r6 r7 v5 r8 r9 v6 v7 r10 r11 v8 v9 r12 v10 v11 r13 v12 w13 r14 v14 v15 r15 r16 r17 r18 r19 r20 v16 r21 r22 r23 v17 h1 g0 f18 h2 g1 fn65 h3 g2 fn66 h4 g3 fn67)) hP hD [0, 1, 2, 3, 4] [] rfl rfl (by decide) (by decide) hk1 hFc hP1 hD1
                clear hP hD hPc hDc hKc hFc hP1 hK1 hD1 hk1 hz1
                generalize H1 = H at hP2 hS ⊢
                have hP : va_P (dC, dI) vwCl (wd_d906eaf1 h0 v0 h1 v1 x62 x63 x64 h2 h3 h4 r0 r1 r2 r3 v3 v4 r4 r5 r6 r7 v5 r8 r9 v6 v7 r10 r11 v8 v9 r12 v10 v11 r13 v12 w13 r14 v14 v15 r15 r16 r17 r18 r19 r20 v16 r21 r22 r23 v17 h1 g0 f18 h2 g1 fn65 h3 g2 fn66 h4 g3 fn67) H := hP2
                have hD : va_D A (wd_d906eaf1 h0 v0 h1 v1 x62 x63 x64 h2 h3 h4 r0 r1 r2 r3 v3 v4 r4 r5 r6 r7 v5 r8 r9 v6 v7 r10 r11 v8 v9 r12 v10 v11 r13 v12 w13 r14 v14 v15 r15 r16 r17 r18 r19 r20 v16 r21 r22 r23 v17 h1 g0 f18 h2 g1 fn65 h3 g2 fn66 h4 g3 fn67) := hD2
                clear hP2 hD2
                have hgF := hgF.app pt1_ra49
                have hxl := hgF.1
                refine lv_aload_n hx hb dX12_sum_47 rfl (lv_at hl 1 rfl) ?_
                refine lv_iload_n hx hb dX12_sum_48 rfl (lv_at hl 0 rfl) ?_
                refine lv_bipush (v := 43) hx hb dX12_sum_49 (by decide) ?_
                refine lv_icmp_ne (tgt := 58) hx hb dX12_sum_51 (by decide) (fun _ => ?_) (fun c68 => by exfalso; have fc68 : x9.toInt = 43 := congrArg Int32.toInt c68; omega)
                refine lv_iconst (v := 3) hx hb dX12_sum_58 (by decide) ?_
                refine lv_iconst (v := 0) hx hb dX12_sum_59 (by decide) ?_
                have hPc := hP.sub (ws' := (wd_c62683a8 h0 v0 h1 v1 x62 x63 x64 h2 h3 h4 r0 r1 r2 r3 v3 v4 r4 r5 r6 r7 v5 r8 r9 v6 v7 r10 r11 v8 v9 r12 v10 v11 r13 v12 w13 r14 v14 v15 r15 r16 r17 r18 r19 r20 v16 r21 r22 r23 v17 h2 g1 fn65 h3 g2 fn66 h4 g3 fn67)) [0, 2, 3, 4] rfl
                have hDc := hD.sub (ws' := (wd_c62683a8 h0 v0 h1 v1 x62 x63 x64 h2 h3 h4 r0 r1 r2 r3 v3 v4 r4 r5 r6 r7 v5 r8 r9 v6 v7 r10 r11 v8 v9 r12 v10 v11 r13 v12 w13 r14 v14 v15 r15 r16 r17 r18 r19 r20 v16 r21 r22 r23 v17 h2 g1 fn65 h3 g2 fn66 h4 g3 fn67)) [0, 2, 3, 4] (by decide) rfl
                have hKc := hK.sub (tys' := [(g1, .int), (g2, .int), (g3, .int)]) [1, 2, 3] rfl
                have hFc := va_free (wc := (wd_c62683a8 h0 v0 h1 v1 x62 x63 x64 h2 h3 h4 r0 r1 r2 r3 v3 v4 r4 r5 r6 r7 v5 r8 r9 v6 v7 r10 r11 v8 v9 r12 v10 v11 r13 v12 w13 r14 v14 v15 r15 r16 r17 r18 r19 r20 v16 r21 r22 r23 v17 h2 g1 fn65 h3 g2 fn66 h4 g3 fn67)) hD hS hA [0, 2, 3, 4] rfl
                refine va_callv (va_runV (As := [.int 3, .int 0]) (rest := []) ⟨hx, hb, hml, hown, hts⟩ (k_X12_put l dC dI h0 h2 h3 h4 v0 h1 v1 x62 x63 x64 r0 r1 r2 r3 v3 v4 r4 r5 r6 r7 v5 r8 r9 v6 v7 r10 r11 v8 v9 r12 v10 v11 r13 v12 w13 r14 v14 v15 r15 r16 r17 r18 r19 r20 v16 r21 r22 r23 v17 g1 fn65 g2 fn66 g3 fn67 3 0 ⟨i_v1a, i_v1b⟩ ⟨i_v3a, i_v3b⟩ ⟨i_v4a, i_v4b⟩ ⟨i_v5a, i_v5b⟩ ⟨i_v6a, i_v6b⟩ ⟨i_v7a, i_v7b⟩ ⟨i_v8a, i_v8b⟩ ⟨i_v12a, i_v12b⟩ ⟨i_v16a, i_v16b⟩ ⟨i_v17a, i_v17b⟩ (by constructor <;> omega) H.size) (cwV 2 hts g_X12_sum_3_3 rfl rfl rfl (by decide +kernel) ⟨Nat.le_of_ble_eq_true rfl, Nat.le_of_ble_eq_true rfl⟩) (pv_PV12 hPc hKc hDc (q0 := 0) rfl) rfl rfl hl.1 rfl (lv_room (Nat.le_of_ble_eq_true rfl)) dX12_sum_60 ⟨Nat.le_of_ble_eq_true rfl, Nat.le_of_ble_eq_true rfl⟩) hS (fun q _ h => hFc q h) hFc (fun u t H1 locs ht hvm hwra69 hB hz1 hk1 hS => ?_)
                have hkra69_0 : ((0 : Int32)).toInt = 0 := by decide
                have hkra69_1 : ((3 : Int32)).toInt = 3 := by decide
                obtain ⟨fn70, fn71, fn72, pt0_ra69, hP1, hK1, hD1⟩ := hB
                rw [ht] at hP1
                obtain ⟨hP2, hD2⟩ := va_join (wr := (wd_d0032b31 h1 g0 f18)) (w1 := (wd_c62683a8 h0 v0 h1 v1 x62 x63 x64 h2 h3 h4 r0 r1 r2 r3 v3 v4 r4 r5 r6 r7 v5 r8 r9 v6 v7 r10 r11 v8 v9 r12 v10 v11 r13 v12 w13 r14 v14 v15 r15 r16 r17 r18 r19 r20 v16 r21 r22 r23 v17 h2 g1 fn70 h3 g2 fn71 h4 g3 fn72)) hP hD [0, 2, 3, 4] [1] rfl rfl (by decide) (by decide) hk1 hFc hP1 hD1
                clear hP hD hPc hDc hKc hFc hP1 hK1 hD1 hk1 hz1
                generalize H1 = H at hP2 hS ⊢
                have hP := hP2.sub (ws' := (wd_d906eaf1 h0 v0 h1 v1 x62 x63 x64 h2 h3 h4 r0 r1 r2 r3 v3 v4 r4 r5 r6 r7 v5 r8 r9 v6 v7 r10 r11 v8 v9 r12 v10 v11 r13 v12 w13 r14 v14 v15 r15 r16 r17 r18 r19 r20 v16 r21 r22 r23 v17 h1 g0 f18 h2 g1 fn70 h3 g2 fn71 h4 g3 fn72)) [1, 0, 2, 3, 4] rfl
                have hD := hD2.sub (ws' := (wd_d906eaf1 h0 v0 h1 v1 x62 x63 x64 h2 h3 h4 r0 r1 r2 r3 v3 v4 r4 r5 r6 r7 v5 r8 r9 v6 v7 r10 r11 v8 v9 r12 v10 v11 r13 v12 w13 r14 v14 v15 r15 r16 r17 r18 r19 r20 v16 r21 r22 r23 v17 h1 g0 f18 h2 g1 fn70 h3 g2 fn71 h4 g3 fn72)) [1, 0, 2, 3, 4] (by decide) rfl
                clear hP2 hD2
                have hgF := hgF.put pt0_ra69
                have hxl := hgF.1
                have hxs := pt0_ra69.step
                refine lv_aload_n hx hb dX12_sum_63 rfl (lv_at hl 1 rfl) ?_
                refine va_get (D := (dC, dI)) (ci := 12) (v := .int x63) (C := RX12) (T := TX12) (N := 48) hx hb hts (fun _ h => List.mem_cons_of_mem _ (List.mem_append_right _ h)) hown hK hP 0 rfl rfl 4 (by decide) (hts (.fieldLink RX12 119 "LeftArgumentsModel" "wrong" "I") (List.mem_cons_of_mem _ (List.mem_append_left _ (List.mem_of_getElem? (i := 21) rfl)))) (fun _ h9 => h9) rfl dX12_sum_64 ?_
                refine lv_iconst (v := (-1)) hx hb dX12_sum_67 (by decide) ?_
                refine lv_icmp_ne (tgt := 78) hx hb dX12_sum_68 (by decide) (fun _ => ?_) (fun c73 => by exfalso; have fc73 : x63.toInt = (-1) := congrArg Int32.toInt c73; omega)
                refine lv_iconst (v := (-1)) hx hb dX12_sum_78 (by decide) ?_
                refine lv_istore_n (lv' := [(1, .int (-1)), (0, .ref h0)]) hx hb dX12_sum_79 rfl hl (by decide) rfl (fun ls hl => ?_)
                refine lv_goto (tgt := 21) hx hb dX12_sum_80 (by decide) ?_
                refine lv_iload_n hx hb dX12_sum_21 rfl (lv_at hl 0 rfl) ?_
                refine lv_bipush (v := 43) hx hb dX12_sum_22 (by decide) ?_
                refine lv_icmp_eq (tgt := 33) hx hb dX12_sum_24 (by decide) (fun c => absurd c (by decide)) (fun _ => ?_)
                refine lv_iload_n hx hb dX12_sum_27 rfl (lv_at hl 0 rfl) ?_
                refine lv_bipush (v := 45) hx hb dX12_sum_28 (by decide) ?_
                refine lv_icmp_ne (tgt := 83) hx hb dX12_sum_30 (by decide) (fun _ => ?_) (fun c => absurd c (by decide))
                subst hQ
                have hP9 := hP.sub (ws' := (wd_d906eaf1 h0 v0 h1 v1 x62 x63 x64 h2 h3 h4 r0 r1 r2 r3 v3 v4 r4 r5 r6 r7 v5 r8 r9 v6 v7 r10 r11 v8 v9 r12 v10 v11 r13 v12 w13 r14 v14 v15 r15 r16 r17 r18 r19 r20 v16 r21 r22 r23 v17 h1 g0 f18 h2 g1 fn70 h3 g2 fn71 h4 g3 fn72)) [0, 1, 2, 3, 4] rfl
                have hD9 := hD.sub (ws' := (wd_d906eaf1 h0 v0 h1 v1 x62 x63 x64 h2 h3 h4 r0 r1 r2 r3 v3 v4 r4 r5 r6 r7 v5 r8 r9 v6 v7 r10 r11 v8 v9 r12 v10 v11 r13 v12 w13 r14 v14 v15 r15 r16 r17 r18 r19 r20 v16 r21 r22 r23 v17 h1 g0 f18 h2 g1 fn70 h3 g2 fn71 h4 g3 fn72)) [0, 1, 2, 3, 4] (by decide) rfl
                have hK9 := hK.sub (tys' := []) [] rfl
                exact W.vret hx hb hr (fun t ht hW => ⟨⟨(), rfl, trivial, Or.inr (⟨x62, x63, x64, fn70, fn71, fn72, oa_x62, ob_x62, oa_x63, ob_x63, by constructor <;> omega, by exact hgF, by rw [pg_sum.eq]; first | assumption | (apply pg_row.no <;> first | assumption | omega) | (apply pg_L.fail <;> first | assumption | omega), by rw [ht]; exact hP9, va_K.moved hW.alike hK9, hD9⟩)⟩, hS.F ht⟩) hS.2.2 dX12_sum_83
      exact hL19 _ ra6 x8 fn3 fn4 fn5 H locs ls (by first | omega | decide) (by first | omega | decide) oa_x8 ob_x8 (by constructor <;> omega) (by exact hgR.mono (by decide)) (by first | assumption | (apply pg_row.ent <;> first | assumption | omega) | (apply pg_L.next <;> first | assumption | omega) | (apply pg_L.step <;> first | assumption | omega | (apply pg_tru.no <;> assumption) | (apply pg_tru.ok <;> assumption)) | exact pg_L.of (by omega) rfl) (by omega) (by omega) (Nat.lt_succ_self _) hP hD hS (lv_sub hl [0, 1] rfl)
  · skip
    obtain ⟨x74, x75, x76, fn77, fn78, fn79, oa_x74, ob_x74, oa_x75, ob_x75, pt0_ra1, pt1_ra1, pt2_ra1, hP1, hK1, hD1⟩ := hB
    rw [ht] at hP1
    obtain ⟨hP2, hD2⟩ := va_join (wr := []) (w1 := (wd_d906eaf1 h0 v0 h1 v1 x74 x75 x76 h2 h3 h4 r0 r1 r2 r3 v3 v4 r4 r5 r6 r7 v5 r8 r9 v6 v7 r10 r11 v8 v9 r12 v10 v11 r13 v12 w13 r14 v14 v15 r15 r16 r17 r18 r19 r20 v16 r21 r22 r23 v17 h1 g0 f18 h2 g1 fn77 h3 g2 fn78 h4 g3 fn79)) hP hD [0, 1, 2, 3, 4] [] rfl rfl (by decide) (by decide) hk1 hFc hP1 hD1
    clear hP hD hPc hDc hKc hFc hP1 hK1 hD1 hk1 hz1
    generalize H1 = H at hP2 hS ⊢
    have hP : va_P (dC, dI) vwCl (wd_d906eaf1 h0 v0 h1 v1 x74 x75 x76 h2 h3 h4 r0 r1 r2 r3 v3 v4 r4 r5 r6 r7 v5 r8 r9 v6 v7 r10 r11 v8 v9 r12 v10 v11 r13 v12 w13 r14 v14 v15 r15 r16 r17 r18 r19 r20 v16 r21 r22 r23 v17 h1 g0 f18 h2 g1 fn77 h3 g2 fn78 h4 g3 fn79) H := hP2
    have hD : va_D A (wd_d906eaf1 h0 v0 h1 v1 x74 x75 x76 h2 h3 h4 r0 r1 r2 r3 v3 v4 r4 r5 r6 r7 v5 r8 r9 v6 v7 r10 r11 v8 v9 r12 v10 v11 r13 v12 w13 r14 v14 v15 r15 r16 r17 r18 r19 r20 v16 r21 r22 r23 v17 h1 g0 f18 h2 g1 fn77 h3 g2 fn78 h4 g3 fn79) := hD2
    clear hP2 hD2
    have hgF := hgF.app pt1_ra1
    have hxl := hgF.1
    refine lv_aload_n hx hb dX12_sum_4 rfl (lv_at hl 0 rfl) ?_
    refine va_get (D := (dC, dI)) (ci := 12) (v := .int x75) (C := RX12) (T := TX12) (N := 48) hx hb hts (fun _ h => List.mem_cons_of_mem _ (List.mem_append_right _ h)) hown hK hP 0 rfl rfl 4 (by decide) (hts (.fieldLink RX12 119 "LeftArgumentsModel" "wrong" "I") (List.mem_cons_of_mem _ (List.mem_append_left _ (List.mem_of_getElem? (i := 21) rfl)))) (fun _ h9 => h9) rfl dX12_sum_5 ?_
    refine lv_iconst (v := (-1)) hx hb dX12_sum_8 (by decide) ?_
    refine lv_icmp_ne (tgt := 19) hx hb dX12_sum_9 (by decide) (fun _ => ?_) (fun c80 => by exfalso; have fc80 : x75.toInt = (-1) := congrArg Int32.toInt c80; omega)
    refine lv_iconst (v := (-1)) hx hb dX12_sum_19 (by decide) ?_
    refine lv_istore_n (lv' := [(1, .int (-1)), (0, .ref h0)]) hx hb dX12_sum_20 rfl hl (by decide) rfl (fun ls hl => ?_)
    refine lv_iload_n hx hb dX12_sum_21 rfl (lv_at hl 0 rfl) ?_
    refine lv_bipush (v := 43) hx hb dX12_sum_22 (by decide) ?_
    refine lv_icmp_eq (tgt := 33) hx hb dX12_sum_24 (by decide) (fun c => absurd c (by decide)) (fun _ => ?_)
    refine lv_iload_n hx hb dX12_sum_27 rfl (lv_at hl 0 rfl) ?_
    refine lv_bipush (v := 45) hx hb dX12_sum_28 (by decide) ?_
    refine lv_icmp_ne (tgt := 83) hx hb dX12_sum_30 (by decide) (fun _ => ?_) (fun c => absurd c (by decide))
    subst hQ
    have hP9 := hP.sub (ws' := (wd_d906eaf1 h0 v0 h1 v1 x74 x75 x76 h2 h3 h4 r0 r1 r2 r3 v3 v4 r4 r5 r6 r7 v5 r8 r9 v6 v7 r10 r11 v8 v9 r12 v10 v11 r13 v12 w13 r14 v14 v15 r15 r16 r17 r18 r19 r20 v16 r21 r22 r23 v17 h1 g0 f18 h2 g1 fn77 h3 g2 fn78 h4 g3 fn79)) [0, 1, 2, 3, 4] rfl
    have hD9 := hD.sub (ws' := (wd_d906eaf1 h0 v0 h1 v1 x74 x75 x76 h2 h3 h4 r0 r1 r2 r3 v3 v4 r4 r5 r6 r7 v5 r8 r9 v6 v7 r10 r11 v8 v9 r12 v10 v11 r13 v12 w13 r14 v14 v15 r15 r16 r17 r18 r19 r20 v16 r21 r22 r23 v17 h1 g0 f18 h2 g1 fn77 h3 g2 fn78 h4 g3 fn79)) [0, 1, 2, 3, 4] (by decide) rfl
    have hK9 := hK.sub (tys' := []) [] rfl
    exact W.vret hx hb hr (fun t ht hW => ⟨⟨(), rfl, trivial, Or.inr (⟨x74, x75, x76, fn77, fn78, fn79, oa_x74, ob_x74, oa_x75, ob_x75, by constructor <;> omega, by exact hgF, by rw [pg_sum.eq]; first | assumption | (apply pg_row.no <;> first | assumption | omega) | (apply pg_L.fail <;> first | assumption | omega), by rw [ht]; exact hP9, va_K.moved hW.alike hK9, hD9⟩)⟩, hS.F ht⟩) hS.2.2 dX12_sum_83
def q_X12_compare_3 : List Cond := .code yX12_compare cX12_compare 2 none :: (([.fieldLink RX12 119 "LeftArgumentsModel" "wrong" "I", .code yX12_look cX12_look 1 (some .int), .code yX12_here cX12_here 1 (some .int), .fieldLink RX12 112 "LeftArgumentsModel" "at" "I", .fieldLink RX12 109 "LeftArgumentsModel" "size" "I", .fieldLink RX12 9 "LeftArgumentsModel" "tape" "[I", .initialized RX12, .instanceMethod yX12_here, .selects RX12 yX12_here yX12_here, .methodLink RX12 115 yX12_here, .instanceMethod yX12_look, .selects RX12 yX12_look yX12_look, .methodLink RX12 131 yX12_look, .code yX12_isSign cX12_isSign 1 (some .boolean), .static yX12_isSign, .methodLink RX12 165 yX12_isSign, .code yX12_bad cX12_bad 1 none, .instanceMethod yX12_bad, .selects RX12 yX12_bad yX12_bad, .methodLink RX12 128 yX12_bad, .code yX12_sum cX12_sum 2 none, .code yX12_term cX12_term 2 none, .code yX12_atom cX12_atom 2 none, .code yX12_isDigit cX12_isDigit 1 (some .boolean), .static yX12_isDigit, .methodLink RX12 134 yX12_isDigit, .code yX12_letterOf cX12_letterOf 1 (some .int), .static yX12_letterOf, .methodLink RX12 145 yX12_letterOf, .code yX12_opens cX12_opens 1 none, .fieldLink RX12 125 "LeftArgumentsModel" "deep" "I", .instanceMethod yX12_opens, .selects RX12 yX12_opens yX12_opens, .methodLink RX12 149 yX12_opens, .code yX12_put cX12_put 3 none, .fieldLink RX12 13 "LeftArgumentsModel" "code" "[I", .fieldLink RX12 122 "LeftArgumentsModel" "text" "I", .fieldLink RX12 19 "LeftArgumentsModel" "codes" "[I", .fieldLink RX12 16 "LeftArgumentsModel" "value" "[I", .instanceMethod yX12_put, .selects RX12 yX12_put yX12_put, .methodLink RX12 141 yX12_put, .code yX12_plainNumber cX12_plainNumber 3 (some .int), .instanceMethod yX12_plainNumber, .selects RX12 yX12_plainNumber yX12_plainNumber, .methodLink RX12 138 yX12_plainNumber, .instanceMethod yX12_atom, .selects RX12 yX12_atom yX12_atom, .methodLink RX12 159 yX12_atom, .instanceMethod yX12_term, .selects RX12 yX12_term yX12_term, .methodLink RX12 162 yX12_term, .instanceMethod yX12_sum, .selects RX12 yX12_sum yX12_sum, .methodLink RX12 152 yX12_sum, .code yX12_closes cX12_closes 2 none, .instanceMethod yX12_closes, .selects RX12 yX12_closes yX12_closes, .methodLink RX12 155 yX12_closes] : List Cond) ++ wsX120)
set_option maxRecDepth 20000 in
theorem g_X12_compare_3_0 : GoodIn q_X12_compare_3 (wsV RX12 131 RX12 yX12_look q_X12_look) := goodIn_app (goodIn_r _ [13, 11, 12, 7] rfl (by decide +kernel)) (goodIn_ca (goodIn_r (.code yX12_look cX12_look 1 (some .int) :: [.code yX12_here cX12_here 1 (some .int), .fieldLink RX12 112 "LeftArgumentsModel" "at" "I", .fieldLink RX12 109 "LeftArgumentsModel" "size" "I", .fieldLink RX12 9 "LeftArgumentsModel" "tape" "[I", .initialized RX12, .instanceMethod yX12_here, .selects RX12 yX12_here yX12_here, .methodLink RX12 115 yX12_here]) [2, 3, 4, 5, 6, 7, 8, 9, 10] rfl (by decide +kernel)) (goodIn_sub (fun _ h => List.mem_cons_of_mem _ (List.mem_append_right _ h)) gwX12))
set_option maxRecDepth 20000 in
theorem g_X12_compare_3_1 : GoodIn q_X12_compare_3 (va_wsS RX12 165 yX12_isSign q_X12_isSign) := goodIn_app (goodIn_r _ [16, 15, 7] rfl (by decide +kernel)) (goodIn_r (.code yX12_isSign cX12_isSign 1 (some .boolean) :: []) [14] rfl (by decide +kernel))
set_option maxRecDepth 20000 in
theorem g_X12_compare_3_2 : GoodIn q_X12_compare_3 (wsV RX12 128 RX12 yX12_bad q_X12_bad) := goodIn_app (goodIn_r _ [20, 18, 19, 7] rfl (by decide +kernel)) (goodIn_ca (goodIn_r (.code yX12_bad cX12_bad 1 none :: [.fieldLink RX12 119 "LeftArgumentsModel" "wrong" "I", .fieldLink RX12 112 "LeftArgumentsModel" "at" "I"]) [17, 1, 4] rfl (by decide +kernel)) (goodIn_sub (fun _ h => List.mem_cons_of_mem _ (List.mem_append_right _ h)) gwX12))
set_option maxRecDepth 20000 in
theorem g_X12_compare_3_4 : GoodIn q_X12_compare_3 (wsV RX12 152 RX12 yX12_sum q_X12_sum_3) := goodIn_app (goodIn_r _ [55, 53, 54, 7] rfl (by decide +kernel)) (goodIn_ca (goodIn_r (.code yX12_sum cX12_sum 2 none :: [.code yX12_term cX12_term 2 none, .code yX12_atom cX12_atom 2 none, .code yX12_look cX12_look 1 (some .int), .code yX12_here cX12_here 1 (some .int), .fieldLink RX12 112 "LeftArgumentsModel" "at" "I", .fieldLink RX12 109 "LeftArgumentsModel" "size" "I", .fieldLink RX12 9 "LeftArgumentsModel" "tape" "[I", .initialized RX12, .instanceMethod yX12_here, .selects RX12 yX12_here yX12_here, .methodLink RX12 115 yX12_here, .instanceMethod yX12_look, .selects RX12 yX12_look yX12_look, .methodLink RX12 131 yX12_look, .code yX12_isDigit cX12_isDigit 1 (some .boolean), .static yX12_isDigit, .methodLink RX12 134 yX12_isDigit, .code yX12_letterOf cX12_letterOf 1 (some .int), .static yX12_letterOf, .methodLink RX12 145 yX12_letterOf, .code yX12_bad cX12_bad 1 none, .fieldLink RX12 119 "LeftArgumentsModel" "wrong" "I", .instanceMethod yX12_bad, .selects RX12 yX12_bad yX12_bad, .methodLink RX12 128 yX12_bad, .code yX12_opens cX12_opens 1 none, .fieldLink RX12 125 "LeftArgumentsModel" "deep" "I", .instanceMethod yX12_opens, .selects RX12 yX12_opens yX12_opens, .methodLink RX12 149 yX12_opens, .code yX12_sum cX12_sum 2 none, .code yX12_put cX12_put 3 none, .fieldLink RX12 13 "LeftArgumentsModel" "code" "[I", .fieldLink RX12 122 "LeftArgumentsModel" "text" "I", .fieldLink RX12 19 "LeftArgumentsModel" "codes" "[I", .fieldLink RX12 16 "LeftArgumentsModel" "value" "[I", .instanceMethod yX12_put, .selects RX12 yX12_put yX12_put, .methodLink RX12 141 yX12_put, .code yX12_plainNumber cX12_plainNumber 3 (some .int), .instanceMethod yX12_plainNumber, .selects RX12 yX12_plainNumber yX12_plainNumber, .methodLink RX12 138 yX12_plainNumber, .instanceMethod yX12_atom, .selects RX12 yX12_atom yX12_atom, .methodLink RX12 159 yX12_atom, .instanceMethod yX12_term, .selects RX12 yX12_term yX12_term, .methodLink RX12 162 yX12_term, .instanceMethod yX12_sum, .selects RX12 yX12_sum yX12_sum, .methodLink RX12 152 yX12_sum, .code yX12_closes cX12_closes 2 none, .instanceMethod yX12_closes, .selects RX12 yX12_closes yX12_closes, .methodLink RX12 155 yX12_closes]) [21, 22, 23, 2, 3, 4, 5, 6, 7, 8, 9, 10, 11, 12, 13, 24, 25, 26, 27, 28, 29, 17, 1, 18, 19, 20, 30, 31, 32, 33, 34, 21, 35, 36, 37, 38, 39, 40, 41, 42, 43, 44, 45, 46, 47, 48, 49, 50, 51, 52, 53, 54, 55, 56, 57, 58, 59] rfl (by decide +kernel)) (goodIn_sub (fun _ h => List.mem_cons_of_mem _ (List.mem_append_right _ h)) gwX12))
set_option maxRecDepth 20000 in
theorem g_X12_compare_3_5 : GoodIn q_X12_compare_3 (wsV RX12 141 RX12 yX12_put q_X12_put) := goodIn_app (goodIn_r _ [42, 40, 41, 7] rfl (by decide +kernel)) (goodIn_ca (goodIn_r (.code yX12_put cX12_put 3 none :: [.fieldLink RX12 13 "LeftArgumentsModel" "code" "[I", .fieldLink RX12 122 "LeftArgumentsModel" "text" "I", .fieldLink RX12 19 "LeftArgumentsModel" "codes" "[I", .fieldLink RX12 16 "LeftArgumentsModel" "value" "[I"]) [35, 36, 37, 38, 39] rfl (by decide +kernel)) (goodIn_sub (fun _ h => List.mem_cons_of_mem _ (List.mem_append_right _ h)) gwX12))
set_option maxHeartbeats 4000000 in
set_option maxRecDepth 100000 in
theorem k_X12_compare_3 (l : Launch) (dC : Nat → ClassId) (dI : Nat → Nat → Nat) (h0 : Nat) (h1 : Nat) (h2 : Nat) (h3 : Nat) (h4 : Nat) (v0 : Int32) (v1 : Int32) (v2 : Int32) (r0 : Nat) (r1 : Nat) (r2 : Nat) (r3 : Nat) (v3 : Int32) (v4 : Int32) (r4 : Nat) (r5 : Nat) (r6 : Nat) (r7 : Nat) (v5 : Int32) (r8 : Nat) (r9 : Nat) (v6 : Int32) (v7 : Int32) (r10 : Nat) (r11 : Nat) (v8 : Int32) (v9 : Int32) (r12 : Nat) (v10 : Int32) (v11 : Int32) (r13 : Nat) (v12 : Int32) (w13 : Int64) (r14 : Nat) (v14 : Int32) (v15 : Int32) (r15 : Nat) (r16 : Nat) (r17 : Nat) (r18 : Nat) (r19 : Nat) (r20 : Nat) (v16 : Int32) (r21 : Nat) (r22 : Nat) (r23 : Nat) (v17 : Int32) (g0 : ClassId) (f18 : Nat → Int32) (g1 : ClassId) (f19 : Nat → Int32) (g2 : ClassId) (f20 : Nat → Int32) (g3 : ClassId) (f21 : Nat → Int32) (i_v1 : 0 ≤ v1.toInt ∧ v1.toInt ≤ 240) (i_v2 : 0 ≤ v2.toInt ∧ v2.toInt ≤ 240) (i_v3 : 0 ≤ v3.toInt ∧ v3.toInt ≤ 4) (i_v4 : 0 ≤ v4.toInt ∧ v4.toInt ≤ 4) (i_v5 : 0 ≤ v5.toInt ∧ v5.toInt ≤ 8) (i_v6 : 0 ≤ v6.toInt ∧ v6.toInt ≤ 8) (i_v7 : 0 ≤ v7.toInt ∧ v7.toInt ≤ 1) (i_v8 : -1 ≤ v8.toInt ∧ v8.toInt ≤ 3) (i_v12 : 0 ≤ v12.toInt ∧ v12.toInt ≤ 40) (i_v16 : 0 ≤ v16.toInt ∧ v16.toInt ≤ 10) (i_v17 : 0 ≤ v17.toInt ∧ v17.toInt ≤ 1) (ia_f18 : (∀ j, 0 ≤ (f18 j).toInt ∧ (f18 j).toInt ≤ 255)) (pp0 : 0 ≤ pm_x f21 v4 ∧ pm_x f21 v4 ≤ v2.toInt) (sz : Nat) : Met l yX12_compare q_X12_compare_3 ({ frames := 14, cells := 0, slots := 0, locals := 294 }) (va_Pc [.ref h0] (fun U => U.heap.size = sz ∧ va_P (dC, dI) vwCl (wd_d906eaf1 h0 v0 h1 v1 v2 (-1) 3 h2 h3 h4 r0 r1 r2 r3 v3 v4 r4 r5 r6 r7 v5 r8 r9 v6 v7 r10 r11 v8 v9 r12 v10 v11 r13 v12 w13 r14 v14 v15 r15 r16 r17 r18 r19 r20 v16 r21 r22 r23 v17 h1 g0 f18 h2 g1 f19 h3 g2 f20 h4 g3 f21) U.heap ∧ va_K (dC, dI) vwCl [(g0, .int), (g1, .int), (g2, .int), (g3, .int)] U ∧ va_D (fun _ => True) (wd_d906eaf1 h0 v0 h1 v1 v2 (-1) 3 h2 h3 h4 r0 r1 r2 r3 v3 v4 r4 r5 r6 r7 v5 r8 r9 v6 v7 r10 r11 v8 v9 r12 v10 v11 r13 v12 w13 r14 v14 v15 r15 r16 r17 r18 r19 r20 v16 r21 r22 r23 v17 h1 g0 f18 h2 g1 f19 h3 g2 f20 h4 g3 f21))) (va_Qv (fun (_ : Unit) => True) (fun (_ : Unit) (t : State) => (∃ (o_h0_3 : Int32) (o_h2 : Nat → Int32) (o_h3 : Nat → Int32) (o_h4 : Nat → Int32), 0 ≤ o_h0_3.toInt ∧ o_h0_3.toInt ≤ 240 ∧ (pm_x o_h4 v4 - pm_x f21 v4 ≤ o_h0_3.toInt - v2.toInt ∧ v2.toInt ≤ o_h0_3.toInt) ∧ (pm_R v4 1 0 9 f19 f20 f21 o_h2 o_h3 o_h4) ∧ (pg_cmp f18 v1.toInt 3 v2.toInt = (true, o_h0_3.toInt)) ∧ va_P (dC, dI) vwCl (wd_d906eaf1 h0 v0 h1 v1 o_h0_3 (-1) 3 h2 h3 h4 r0 r1 r2 r3 v3 v4 r4 r5 r6 r7 v5 r8 r9 v6 v7 r10 r11 v8 v9 r12 v10 v11 r13 v12 w13 r14 v14 v15 r15 r16 r17 r18 r19 r20 v16 r21 r22 r23 v17 h1 g0 f18 h2 g1 o_h2 h3 g2 o_h3 h4 g3 o_h4) t.heap ∧ va_K (dC, dI) vwCl [] t ∧ va_D (va_A (wd_d906eaf1 h0 v0 h1 v1 v2 (-1) 3 h2 h3 h4 r0 r1 r2 r3 v3 v4 r4 r5 r6 r7 v5 r8 r9 v6 v7 r10 r11 v8 v9 r12 v10 v11 r13 v12 w13 r14 v14 v15 r15 r16 r17 r18 r19 r20 v16 r21 r22 r23 v17 h1 g0 f18 h2 g1 f19 h3 g2 f20 h4 g3 f21) sz) (wd_d906eaf1 h0 v0 h1 v1 o_h0_3 (-1) 3 h2 h3 h4 r0 r1 r2 r3 v3 v4 r4 r5 r6 r7 v5 r8 r9 v6 v7 r10 r11 v8 v9 r12 v10 v11 r13 v12 w13 r14 v14 v15 r15 r16 r17 r18 r19 r20 v16 r21 r22 r23 v17 h1 g0 f18 h2 g1 o_h2 h3 g2 o_h3 h4 g3 o_h4)) ∨ (∃ (o_h0_3 : Int32) (o_h0_4 : Int32) (o_h0_5 : Int32) (o_h2 : Nat → Int32) (o_h3 : Nat → Int32) (o_h4 : Nat → Int32), 0 ≤ o_h0_3.toInt ∧ o_h0_3.toInt ≤ 243 ∧ 0 ≤ o_h0_4.toInt ∧ o_h0_4.toInt ≤ 240 ∧ (pm_x o_h4 v4 - pm_x f21 v4 ≤ o_h0_3.toInt - v2.toInt ∧ v2.toInt ≤ o_h0_3.toInt) ∧ (pm_F v4 f19 f20 f21 o_h2 o_h3 o_h4) ∧ (pg_cmp f18 v1.toInt 3 v2.toInt = (false, o_h0_4.toInt)) ∧ va_P (dC, dI) vwCl (wd_d906eaf1 h0 v0 h1 v1 o_h0_3 o_h0_4 o_h0_5 h2 h3 h4 r0 r1 r2 r3 v3 v4 r4 r5 r6 r7 v5 r8 r9 v6 v7 r10 r11 v8 v9 r12 v10 v11 r13 v12 w13 r14 v14 v15 r15 r16 r17 r18 r19 r20 v16 r21 r22 r23 v17 h1 g0 f18 h2 g1 o_h2 h3 g2 o_h3 h4 g3 o_h4) t.heap ∧ va_K (dC, dI) vwCl [] t ∧ va_D (va_A (wd_d906eaf1 h0 v0 h1 v1 v2 (-1) 3 h2 h3 h4 r0 r1 r2 r3 v3 v4 r4 r5 r6 r7 v5 r8 r9 v6 v7 r10 r11 v8 v9 r12 v10 v11 r13 v12 w13 r14 v14 v15 r15 r16 r17 r18 r19 r20 v16 r21 r22 r23 v17 h1 g0 f18 h2 g1 f19 h3 g2 f20 h4 g3 f21) sz) (wd_d906eaf1 h0 v0 h1 v1 o_h0_3 o_h0_4 o_h0_5 h2 h3 h4 r0 r1 r2 r3 v3 v4 r4 r5 r6 r7 v5 r8 r9 v6 v7 r10 r11 v8 v9 r12 v10 v11 r13 v12 w13 r14 v14 v15 r15 r16 r17 r18 r19 r20 v16 r21 r22 r23 v17 h1 g0 f18 h2 g1 o_h2 h3 g2 o_h3 h4 g3 o_h4))) (va_A (wd_d906eaf1 h0 v0 h1 v1 v2 (-1) 3 h2 h3 h4 r0 r1 r2 r3 v3 v4 r4 r5 r6 r7 v5 r8 r9 v6 v7 r10 r11 v8 v9 r12 v10 v11 r13 v12 w13 r14 v14 v15 r15 r16 r17 r18 r19 r20 v16 r21 r22 r23 v17 h1 g0 f18 h2 g1 f19 h3 g2 f20 h4 g3 f21) sz)) 0 0 (va_A (wd_d906eaf1 h0 v0 h1 v1 v2 (-1) 3 h2 h3 h4 r0 r1 r2 r3 v3 v4 r4 r5 r6 r7 v5 r8 r9 v6 v7 r10 r11 v8 v9 r12 v10 v11 r13 v12 w13 r14 v14 v15 r15 r16 r17 r18 r19 r20 v16 r21 r22 r23 v17 h1 g0 f18 h2 g1 f19 h3 g2 f20 h4 g3 f21) sz) := by
  refine Met.ofW (cc := cX12_compare) (maxL := 2) (ret := none) (by decide) rfl ?_
  intro p e s m args below meth c s₁ B hml hv
  obtain ⟨i_v1a, i_v1b⟩ := i_v1
  obtain ⟨i_v2a, i_v2b⟩ := i_v2
  obtain ⟨i_v3a, i_v3b⟩ := i_v3
  obtain ⟨i_v4a, i_v4b⟩ := i_v4
  obtain ⟨i_v5a, i_v5b⟩ := i_v5
  obtain ⟨i_v6a, i_v6b⟩ := i_v6
  obtain ⟨i_v7a, i_v7b⟩ := i_v7
  obtain ⟨i_v8a, i_v8b⟩ := i_v8
  obtain ⟨i_v12a, i_v12b⟩ := i_v12
  obtain ⟨i_v16a, i_v16b⟩ := i_v16
  obtain ⟨i_v17a, i_v17b⟩ := i_v17
  obtain ⟨rfl, hsz, hP, hK, hD0⟩ := hv
  have hx := B.exec
  have hb := B.bytes
  have hr := B.returns
  have hts := atoms_spec (ws := q_X12_compare_3) B.pre
  have hown : s.vm.findClass RX12 = some m.cls := findClass_of_methodNamed B.named
  have hlocks := B.notSynchronized
  subst hsz
  have hD := hD0.self (sz := s.heap.size)
  generalize hAe : va_A (wd_d906eaf1 h0 v0 h1 v1 v2 (-1) 3 h2 h3 h4 r0 r1 r2 r3 v3 v4 r4 r5 r6 r7 v5 r8 r9 v6 v7 r10 r11 v8 v9 r12 v10 v11 r13 v12 w13 r14 v14 v15 r15 r16 r17 r18 r19 r20 v16 r21 r22 r23 v17 h1 g0 f18 h2 g1 f19 h3 g2 f20 h4 g3 f21) s.heap.size = A at hD ⊢
  have hA : ∀ q : Nat, s.heap.size ≤ q → A q := fun q h => by rw [← hAe]; exact Or.inr h
  have hS : va_S A s.heap s.heap [] := va_S.rf
  generalize hQ : (MQ below _ _ s 0 0 A) = Q
  have hl := lv_entry ([.ref h0]) (n := 2) (Nat.le_of_ble_eq_true rfl)
  rw [lg_entry_eq]
  generalize (lg_sl ([.ref h0]) ++ List.replicate (2 - (lg_sl ([.ref h0])).length) Slot.unset).toArray = ls at hl ⊢
  have hl : lv_has ls 2 [(0, .ref h0)] := hl
  obtain ⟨H, hH⟩ : ∃ H : Heap, H = s.heap := ⟨_, rfl⟩
  obtain ⟨locs, hlocs⟩ : ∃ y : List Loc, y = [] := ⟨_, rfl⟩
  have hS : va_S A s.heap H locs := by rw [hH, hlocs]; exact va_S.rf
  have hP : va_P (dC, dI) vwCl (wd_d906eaf1 h0 v0 h1 v1 v2 (-1) 3 h2 h3 h4 r0 r1 r2 r3 v3 v4 r4 r5 r6 r7 v5 r8 r9 v6 v7 r10 r11 v8 v9 r12 v10 v11 r13 v12 w13 r14 v14 v15 r15 r16 r17 r18 r19 r20 v16 r21 r22 r23 v17 h1 g0 f18 h2 g1 f19 h3 g2 f20 h4 g3 f21) H := by rw [hH]; exact hP
  rw [← hH, ← hlocs]
  have px1 := pp0.1; have px2 := pp0.2
  have hgR := pm_R.refl (L := 1) v4 f19 f20 f21 px1
  have hgF := hgR.1
  refine lv_aload_n hx hb dX12_compare_0 rfl (lv_at hl 0 rfl) ?_
  refine va_get (D := (dC, dI)) (ci := 12) (v := .int (-1)) (C := RX12) (T := TX12) (N := 48) hx hb hts (fun _ h => List.mem_cons_of_mem _ (List.mem_append_right _ h)) hown hK hP 0 rfl rfl 4 (by decide) (hts (.fieldLink RX12 119 "LeftArgumentsModel" "wrong" "I") (List.mem_cons_of_mem _ (List.mem_append_left _ (List.mem_of_getElem? (i := 0) rfl)))) (fun _ h9 => h9) rfl dX12_compare_1 ?_
  refine lv_iconst (v := (-1)) hx hb dX12_compare_4 (by decide) ?_
  refine lv_icmp_ne (tgt := 15) hx hb dX12_compare_5 (by decide) (fun c => absurd (by decide) c) (fun _ => ?_)
  refine lv_aload_n hx hb dX12_compare_8 rfl (lv_at hl 0 rfl) ?_
  have hPc := hP.sub (ws' := (wd_f4cd022e h0 v0 h1 v1 v2 (-1) 3 h2 h3 h4 r0 r1 r2 r3 v3 v4 r4 r5 r6 r7 v5 r8 r9 v6 v7 r10 r11 v8 v9 r12 v10 v11 r13 v12 w13 r14 v14 v15 r15 r16 r17 r18 r19 r20 v16 r21 r22 r23 v17 h1 g0 f18)) [0, 1] rfl
  have hDc := hD.sub (ws' := (wd_f4cd022e h0 v0 h1 v1 v2 (-1) 3 h2 h3 h4 r0 r1 r2 r3 v3 v4 r4 r5 r6 r7 v5 r8 r9 v6 v7 r10 r11 v8 v9 r12 v10 v11 r13 v12 w13 r14 v14 v15 r15 r16 r17 r18 r19 r20 v16 r21 r22 r23 v17 h1 g0 f18)) [0, 1] (by decide) rfl
  have hKc := hK.sub (tys' := [(g0, .int)]) [0] rfl
  have hFc := va_free (wc := (wd_f4cd022e h0 v0 h1 v1 v2 (-1) 3 h2 h3 h4 r0 r1 r2 r3 v3 v4 r4 r5 r6 r7 v5 r8 r9 v6 v7 r10 r11 v8 v9 r12 v10 v11 r13 v12 w13 r14 v14 v15 r15 r16 r17 r18 r19 r20 v16 r21 r22 r23 v17 h1 g0 f18)) hD hS hA [0, 1] rfl
  refine va_calli (va_runV (As := []) (rest := []) ⟨hx, hb, hml, hown, hts⟩ (k_X12_look l dC dI h0 h1 v0 v1 v2 ((-1)) 3 h2 h3 h4 r0 r1 r2 r3 v3 v4 r4 r5 r6 r7 v5 r8 r9 v6 v7 r10 r11 v8 v9 r12 v10 v11 r13 v12 w13 r14 v14 v15 r15 r16 r17 r18 r19 r20 v16 r21 r22 r23 v17 g0 f18 ⟨i_v1a, i_v1b⟩ ⟨i_v2a, i_v2b⟩ ⟨i_v3a, i_v3b⟩ ⟨i_v4a, i_v4b⟩ ⟨i_v5a, i_v5b⟩ ⟨i_v6a, i_v6b⟩ ⟨i_v7a, i_v7b⟩ ⟨i_v8a, i_v8b⟩ ⟨i_v12a, i_v12b⟩ ⟨i_v16a, i_v16b⟩ ⟨i_v17a, i_v17b⟩ ia_f18 H.size) (cwV 0 hts g_X12_compare_3_0 rfl rfl rfl (by decide +kernel) ⟨Nat.le_of_ble_eq_true rfl, Nat.le_of_ble_eq_true rfl⟩) (pv_PV12 hPc hKc hDc (q0 := 0) rfl) rfl rfl hl.1 rfl (lv_room (Nat.le_of_ble_eq_true rfl)) dX12_compare_9 ⟨Nat.le_of_ble_eq_true rfl, Nat.le_of_ble_eq_true rfl⟩) hS (fun q _ h => hFc q h) hFc (fun ra1 u t H1 locs ht hvm hwra1 hB hz1 hk1 hS => ?_)
  try rw [hwra1] at hB
  have hkra1_0 : (((-1) : Int32)).toInt = -1 := by decide
  have hkra1_1 : ((3 : Int32)).toInt = 3 := by decide
  rcases hB with hB | hB
  · skip
    obtain ⟨x2, oa_x2, ob_x2, pt0_ra1, pt1_ra1, pt2_ra1, pt3_ra1, pt4_ra1, pt5_ra1, pt6_ra1, hP1, hK1, hD1⟩ := hB
    rw [ht] at hP1
    obtain ⟨hP2, hD2⟩ := va_join (wr := (wd_ad0642e8 h2 g1 f19 h3 g2 f20 h4 g3 f21)) (w1 := (wd_f4cd022e h0 v0 h1 v1 x2 (-1) 3 h2 h3 h4 r0 r1 r2 r3 v3 v4 r4 r5 r6 r7 v5 r8 r9 v6 v7 r10 r11 v8 v9 r12 v10 v11 r13 v12 w13 r14 v14 v15 r15 r16 r17 r18 r19 r20 v16 r21 r22 r23 v17 h1 g0 f18)) hP hD [0, 1] [2, 3, 4] rfl rfl (by decide) (by decide) hk1 hFc hP1 hD1
    clear hP hD hPc hDc hKc hFc hP1 hK1 hD1 hk1 hz1
    generalize H1 = H at hP2 hS ⊢
    have hP := hP2.sub (ws' := (wd_d906eaf1 h0 v0 h1 v1 x2 (-1) 3 h2 h3 h4 r0 r1 r2 r3 v3 v4 r4 r5 r6 r7 v5 r8 r9 v6 v7 r10 r11 v8 v9 r12 v10 v11 r13 v12 w13 r14 v14 v15 r15 r16 r17 r18 r19 r20 v16 r21 r22 r23 v17 h1 g0 f18 h2 g1 f19 h3 g2 f20 h4 g3 f21)) [3, 4, 0, 1, 2] rfl
    have hD := hD2.sub (ws' := (wd_d906eaf1 h0 v0 h1 v1 x2 (-1) 3 h2 h3 h4 r0 r1 r2 r3 v3 v4 r4 r5 r6 r7 v5 r8 r9 v6 v7 r10 r11 v8 v9 r12 v10 v11 r13 v12 w13 r14 v14 v15 r15 r16 r17 r18 r19 r20 v16 r21 r22 r23 v17 h1 g0 f18 h2 g1 f19 h3 g2 f20 h4 g3 f21)) [3, 4, 0, 1, 2] (by decide) rfl
    clear hP2 hD2
    obtain rfl : ra1 = ((-1) : Int32) := pv_cs (by decide) pt0_ra1 pt1_ra1
    refine lv_goto (tgt := 16) hx hb dX12_compare_12 (by decide) ?_
    refine lv_istore_n (lv' := [(1, .int (-1)), (0, .ref h0)]) hx hb dX12_compare_16 rfl hl (by decide) rfl (fun ls hl => ?_)
    refine lv_iload_n hx hb dX12_compare_17 rfl (lv_at hl 0 rfl) ?_
    have hPc := hP.sub (ws' := []) [] rfl
    have hDc := hD.sub (ws' := []) [] (by decide) rfl
    have hKc := hK.sub (tys' := []) [] rfl
    have hFc := va_free (wc := []) hD hS hA [] rfl
    refine va_calli (va_runS (As := [.int (-1)]) (rest := []) ⟨hx, hb, hml, hown, hts⟩ (k_X12_isSign l dC dI ((-1))  H.size) (va_cwS 1 hts g_X12_compare_3_1 rfl rfl rfl (by decide +kernel) ⟨Nat.le_of_ble_eq_true rfl, Nat.le_of_ble_eq_true rfl⟩) (pv_PS hPc hKc hDc) rfl rfl hl.1 rfl (lv_room (Nat.le_of_ble_eq_true rfl)) dX12_compare_18 ⟨Nat.le_of_ble_eq_true rfl, Nat.le_of_ble_eq_true rfl⟩) hS (fun q _ h => hFc q h) hFc (fun ra3 u t H1 locs ht hvm hwra3 hB hz1 hk1 hS => ?_)
    try rw [hwra3] at hB
    have hkra3_0 : (((-1) : Int32)).toInt = -1 := by decide
    obtain ⟨pt0_ra3, pt1_ra3, pt2_ra3, pt3_ra3, pt4_ra3, hP1, hK1, hD1⟩ := hB
    rw [ht] at hP1
    obtain ⟨hP2, hD2⟩ := va_join (wr := (wd_d906eaf1 h0 v0 h1 v1 x2 (-1) 3 h2 h3 h4 r0 r1 r2 r3 v3 v4 r4 r5 r6 r7 v5 r8 r9 v6 v7 r10 r11 v8 v9 r12 v10 v11 r13 v12 w13 r14 v14 v15 r15 r16 r17 r18 r19 r20 v16 r21 r22 r23 v17 h1 g0 f18 h2 g1 f19 h3 g2 f20 h4 g3 f21)) (w1 := []) hP hD [] [0, 1, 2, 3, 4] rfl rfl (by decide) (by decide) hk1 hFc hP1 hD1
    clear hP hD hPc hDc hKc hFc hP1 hK1 hD1 hk1 hz1
    generalize H1 = H at hP2 hS ⊢
    have hP : va_P (dC, dI) vwCl (wd_d906eaf1 h0 v0 h1 v1 x2 (-1) 3 h2 h3 h4 r0 r1 r2 r3 v3 v4 r4 r5 r6 r7 v5 r8 r9 v6 v7 r10 r11 v8 v9 r12 v10 v11 r13 v12 w13 r14 v14 v15 r15 r16 r17 r18 r19 r20 v16 r21 r22 r23 v17 h1 g0 f18 h2 g1 f19 h3 g2 f20 h4 g3 f21) H := hP2
    have hD : va_D A (wd_d906eaf1 h0 v0 h1 v1 x2 (-1) 3 h2 h3 h4 r0 r1 r2 r3 v3 v4 r4 r5 r6 r7 v5 r8 r9 v6 v7 r10 r11 v8 v9 r12 v10 v11 r13 v12 w13 r14 v14 v15 r15 r16 r17 r18 r19 r20 v16 r21 r22 r23 v17 h1 g0 f18 h2 g1 f19 h3 g2 f20 h4 g3 f21) := hD2
    clear hP2 hD2
    refine lv_if_ne (tgt := 29) hx hb dX12_compare_21 (by decide) (fun c4 => ?_) (fun c4 => ?_)
    · skip
      have fc4 : ¬ (ra3.toInt = 0) := fun h9 => c4 (Int32.toInt_inj.mp h9)
      exfalso; omega
    · skip
      have fc4 : ra3.toInt = 0 := congrArg Int32.toInt c4
      refine lv_aload_n hx hb dX12_compare_24 rfl (lv_at hl 1 rfl) ?_
      have hPc := hP.sub (ws' := (wd_171f232f h0 v0 h1 v1 x2 (-1) 3 h2 h3 h4 r0 r1 r2 r3 v3 v4 r4 r5 r6 r7 v5 r8 r9 v6 v7 r10 r11 v8 v9 r12 v10 v11 r13 v12 w13 r14 v14 v15 r15 r16 r17 r18 r19 r20 v16 r21 r22 r23 v17)) [0] rfl
      have hDc := hD.sub (ws' := (wd_171f232f h0 v0 h1 v1 x2 (-1) 3 h2 h3 h4 r0 r1 r2 r3 v3 v4 r4 r5 r6 r7 v5 r8 r9 v6 v7 r10 r11 v8 v9 r12 v10 v11 r13 v12 w13 r14 v14 v15 r15 r16 r17 r18 r19 r20 v16 r21 r22 r23 v17)) [0] (by decide) rfl
      have hKc := hK.sub (tys' := []) [] rfl
      have hFc := va_free (wc := (wd_171f232f h0 v0 h1 v1 x2 (-1) 3 h2 h3 h4 r0 r1 r2 r3 v3 v4 r4 r5 r6 r7 v5 r8 r9 v6 v7 r10 r11 v8 v9 r12 v10 v11 r13 v12 w13 r14 v14 v15 r15 r16 r17 r18 r19 r20 v16 r21 r22 r23 v17)) hD hS hA [0] rfl
      refine va_callv (va_runV (As := []) (rest := []) ⟨hx, hb, hml, hown, hts⟩ (k_X12_bad l dC dI h0 v0 h1 v1 x2 3 h2 h3 h4 r0 r1 r2 r3 v3 v4 r4 r5 r6 r7 v5 r8 r9 v6 v7 r10 r11 v8 v9 r12 v10 v11 r13 v12 w13 r14 v14 v15 r15 r16 r17 r18 r19 r20 v16 r21 r22 r23 v17 ⟨i_v1a, i_v1b⟩ ⟨oa_x2, ob_x2⟩ ⟨i_v3a, i_v3b⟩ ⟨i_v4a, i_v4b⟩ ⟨i_v5a, i_v5b⟩ ⟨i_v6a, i_v6b⟩ ⟨i_v7a, i_v7b⟩ ⟨i_v8a, i_v8b⟩ ⟨i_v12a, i_v12b⟩ ⟨i_v16a, i_v16b⟩ ⟨i_v17a, i_v17b⟩ H.size) (cwV 0 hts g_X12_compare_3_2 rfl rfl rfl (by decide +kernel) ⟨Nat.le_of_ble_eq_true rfl, Nat.le_of_ble_eq_true rfl⟩) (pv_PV12 hPc hKc hDc (q0 := 0) rfl) rfl rfl hl.1 rfl (lv_room (Nat.le_of_ble_eq_true rfl)) dX12_compare_25 ⟨Nat.le_of_ble_eq_true rfl, Nat.le_of_ble_eq_true rfl⟩) hS (fun q _ h => hFc q h) hFc (fun u t H1 locs ht hvm hwra5 hB hz1 hk1 hS => ?_)
      have hkra5_0 : ((3 : Int32)).toInt = 3 := by decide
      obtain ⟨x6, oa_x6, ob_x6, pt0_ra5, hP1, hK1, hD1⟩ := hB
      rw [ht] at hP1
      obtain ⟨hP2, hD2⟩ := va_join (wr := (wd_bfe486e6 h1 g0 f18 h2 g1 f19 h3 g2 f20 h4 g3 f21)) (w1 := (wd_171f232f h0 v0 h1 v1 x2 x6 3 h2 h3 h4 r0 r1 r2 r3 v3 v4 r4 r5 r6 r7 v5 r8 r9 v6 v7 r10 r11 v8 v9 r12 v10 v11 r13 v12 w13 r14 v14 v15 r15 r16 r17 r18 r19 r20 v16 r21 r22 r23 v17)) hP hD [0] [1, 2, 3, 4] rfl rfl (by decide) (by decide) hk1 hFc hP1 hD1
      clear hP hD hPc hDc hKc hFc hP1 hK1 hD1 hk1 hz1
      generalize H1 = H at hP2 hS ⊢
      have hP := hP2.sub (ws' := (wd_d906eaf1 h0 v0 h1 v1 x2 x6 3 h2 h3 h4 r0 r1 r2 r3 v3 v4 r4 r5 r6 r7 v5 r8 r9 v6 v7 r10 r11 v8 v9 r12 v10 v11 r13 v12 w13 r14 v14 v15 r15 r16 r17 r18 r19 r20 v16 r21 r22 r23 v17 h1 g0 f18 h2 g1 f19 h3 g2 f20 h4 g3 f21)) [4, 0, 1, 2, 3] rfl
      have hD := hD2.sub (ws' := (wd_d906eaf1 h0 v0 h1 v1 x2 x6 3 h2 h3 h4 r0 r1 r2 r3 v3 v4 r4 r5 r6 r7 v5 r8 r9 v6 v7 r10 r11 v8 v9 r12 v10 v11 r13 v12 w13 r14 v14 v15 r15 r16 r17 r18 r19 r20 v16 r21 r22 r23 v17 h1 g0 f18 h2 g1 f19 h3 g2 f20 h4 g3 f21)) [4, 0, 1, 2, 3] (by decide) rfl
      clear hP2 hD2
      subst hQ
      have hP9 := hP.sub (ws' := (wd_d906eaf1 h0 v0 h1 v1 x2 x6 3 h2 h3 h4 r0 r1 r2 r3 v3 v4 r4 r5 r6 r7 v5 r8 r9 v6 v7 r10 r11 v8 v9 r12 v10 v11 r13 v12 w13 r14 v14 v15 r15 r16 r17 r18 r19 r20 v16 r21 r22 r23 v17 h1 g0 f18 h2 g1 f19 h3 g2 f20 h4 g3 f21)) [0, 1, 2, 3, 4] rfl
      have hD9 := hD.sub (ws' := (wd_d906eaf1 h0 v0 h1 v1 x2 x6 3 h2 h3 h4 r0 r1 r2 r3 v3 v4 r4 r5 r6 r7 v5 r8 r9 v6 v7 r10 r11 v8 v9 r12 v10 v11 r13 v12 w13 r14 v14 v15 r15 r16 r17 r18 r19 r20 v16 r21 r22 r23 v17 h1 g0 f18 h2 g1 f19 h3 g2 f20 h4 g3 f21)) [0, 1, 2, 3, 4] (by decide) rfl
      have hK9 := hK.sub (tys' := []) [] rfl
      exact W.vret hx hb hr (fun t ht hW => ⟨⟨(), rfl, trivial, Or.inr (⟨x2, x6, 3, f19, f20, f21, oa_x2, by first | omega | decide, oa_x6, ob_x6, by constructor <;> omega, by exact hgF, by first | (apply pg_cmp.ok <;> first | assumption | omega) | (apply pg_cmp.no <;> first | assumption | omega), by rw [ht]; exact hP9, va_K.moved hW.alike hK9, hD9⟩)⟩, hS.F ht⟩) hS.2.2 dX12_compare_28
  · skip
    obtain ⟨x7, oa_x7, ob_x7, pt0_ra1, pt1_ra1, pt2_ra1, pt3_ra1, pt4_ra1, pt5_ra1, pt6_ra1, pt7_ra1, hP1, hK1, hD1⟩ := hB
    rw [ht] at hP1
    obtain ⟨hP2, hD2⟩ := va_join (wr := (wd_ad0642e8 h2 g1 f19 h3 g2 f20 h4 g3 f21)) (w1 := (wd_f4cd022e h0 v0 h1 v1 x7 (-1) 3 h2 h3 h4 r0 r1 r2 r3 v3 v4 r4 r5 r6 r7 v5 r8 r9 v6 v7 r10 r11 v8 v9 r12 v10 v11 r13 v12 w13 r14 v14 v15 r15 r16 r17 r18 r19 r20 v16 r21 r22 r23 v17 h1 g0 f18)) hP hD [0, 1] [2, 3, 4] rfl rfl (by decide) (by decide) hk1 hFc hP1 hD1
    clear hP hD hPc hDc hKc hFc hP1 hK1 hD1 hk1 hz1
    generalize H1 = H at hP2 hS ⊢
    have hP := hP2.sub (ws' := (wd_d906eaf1 h0 v0 h1 v1 x7 (-1) 3 h2 h3 h4 r0 r1 r2 r3 v3 v4 r4 r5 r6 r7 v5 r8 r9 v6 v7 r10 r11 v8 v9 r12 v10 v11 r13 v12 w13 r14 v14 v15 r15 r16 r17 r18 r19 r20 v16 r21 r22 r23 v17 h1 g0 f18 h2 g1 f19 h3 g2 f20 h4 g3 f21)) [3, 4, 0, 1, 2] rfl
    have hD := hD2.sub (ws' := (wd_d906eaf1 h0 v0 h1 v1 x7 (-1) 3 h2 h3 h4 r0 r1 r2 r3 v3 v4 r4 r5 r6 r7 v5 r8 r9 v6 v7 r10 r11 v8 v9 r12 v10 v11 r13 v12 w13 r14 v14 v15 r15 r16 r17 r18 r19 r20 v16 r21 r22 r23 v17 h1 g0 f18 h2 g1 f19 h3 g2 f20 h4 g3 f21)) [3, 4, 0, 1, 2] (by decide) rfl
    clear hP2 hD2
    refine lv_goto (tgt := 16) hx hb dX12_compare_12 (by decide) ?_
    refine lv_istore_n (lv' := [(1, .int ra1), (0, .ref h0)]) hx hb dX12_compare_16 rfl hl (by decide) rfl (fun ls hl => ?_)
    refine lv_iload_n hx hb dX12_compare_17 rfl (lv_at hl 0 rfl) ?_
    have hPc := hP.sub (ws' := []) [] rfl
    have hDc := hD.sub (ws' := []) [] (by decide) rfl
    have hKc := hK.sub (tys' := []) [] rfl
    have hFc := va_free (wc := []) hD hS hA [] rfl
    refine va_calli (va_runS (As := [.int ra1]) (rest := []) ⟨hx, hb, hml, hown, hts⟩ (k_X12_isSign l dC dI ra1  H.size) (va_cwS 1 hts g_X12_compare_3_1 rfl rfl rfl (by decide +kernel) ⟨Nat.le_of_ble_eq_true rfl, Nat.le_of_ble_eq_true rfl⟩) (pv_PS hPc hKc hDc) rfl rfl hl.1 rfl (lv_room (Nat.le_of_ble_eq_true rfl)) dX12_compare_18 ⟨Nat.le_of_ble_eq_true rfl, Nat.le_of_ble_eq_true rfl⟩) hS (fun q _ h => hFc q h) hFc (fun ra8 u t H1 locs ht hvm hwra8 hB hz1 hk1 hS => ?_)
    try rw [hwra8] at hB
    obtain ⟨pt0_ra8, pt1_ra8, pt2_ra8, pt3_ra8, pt4_ra8, hP1, hK1, hD1⟩ := hB
    rw [ht] at hP1
    obtain ⟨hP2, hD2⟩ := va_join (wr := (wd_d906eaf1 h0 v0 h1 v1 x7 (-1) 3 h2 h3 h4 r0 r1 r2 r3 v3 v4 r4 r5 r6 r7 v5 r8 r9 v6 v7 r10 r11 v8 v9 r12 v10 v11 r13 v12 w13 r14 v14 v15 r15 r16 r17 r18 r19 r20 v16 r21 r22 r23 v17 h1 g0 f18 h2 g1 f19 h3 g2 f20 h4 g3 f21)) (w1 := []) hP hD [] [0, 1, 2, 3, 4] rfl rfl (by decide) (by decide) hk1 hFc hP1 hD1
    clear hP hD hPc hDc hKc hFc hP1 hK1 hD1 hk1 hz1
    generalize H1 = H at hP2 hS ⊢
    have hP : va_P (dC, dI) vwCl (wd_d906eaf1 h0 v0 h1 v1 x7 (-1) 3 h2 h3 h4 r0 r1 r2 r3 v3 v4 r4 r5 r6 r7 v5 r8 r9 v6 v7 r10 r11 v8 v9 r12 v10 v11 r13 v12 w13 r14 v14 v15 r15 r16 r17 r18 r19 r20 v16 r21 r22 r23 v17 h1 g0 f18 h2 g1 f19 h3 g2 f20 h4 g3 f21) H := hP2
    have hD : va_D A (wd_d906eaf1 h0 v0 h1 v1 x7 (-1) 3 h2 h3 h4 r0 r1 r2 r3 v3 v4 r4 r5 r6 r7 v5 r8 r9 v6 v7 r10 r11 v8 v9 r12 v10 v11 r13 v12 w13 r14 v14 v15 r15 r16 r17 r18 r19 r20 v16 r21 r22 r23 v17 h1 g0 f18 h2 g1 f19 h3 g2 f20 h4 g3 f21) := hD2
    clear hP2 hD2
    refine lv_if_ne (tgt := 29) hx hb dX12_compare_21 (by decide) (fun c9 => ?_) (fun c9 => ?_)
    · skip
      have fc9 : ¬ (ra8.toInt = 0) := fun h9 => c9 (Int32.toInt_inj.mp h9)
      refine lv_aload_n hx hb dX12_compare_29 rfl (lv_at hl 1 rfl) ?_
      refine lv_dup hx hb dX12_compare_30 rfl ?_
      refine va_get (D := (dC, dI)) (ci := 12) (v := .int x7) (C := RX12) (T := TX12) (N := 48) hx hb hts (fun _ h => List.mem_cons_of_mem _ (List.mem_append_right _ h)) hown hK hP 0 rfl rfl 3 (by decide) (hts (.fieldLink RX12 112 "LeftArgumentsModel" "at" "I") (List.mem_cons_of_mem _ (List.mem_append_left _ (List.mem_of_getElem? (i := 3) rfl)))) (fun _ h9 => h9) rfl dX12_compare_31 ?_
      refine lv_iconst (v := 1) hx hb dX12_compare_34 (by decide) ?_
      refine lv_iadd hx hb dX12_compare_35 ?_
      refine lv_topi (fun t10 et10 => ?_)
      have gt10 : t10.toInt = x7.toInt + 1 := pv_add (a := x7.toInt) (b := 1) et10 rfl (by decide) (by omega) (by omega)
      refine va_put (D := (dC, dI)) (ci := 12) (v := .int t10) (ty := .int) (C := RX12) (T := TX12) (N := 48) hx hb hts (fun _ h => List.mem_cons_of_mem _ (List.mem_append_right _ h)) tyX12 tyX12_ok nmX12 hown hK hP hD hS 0 rfl rfl 3 (by decide) (hts (.fieldLink RX12 112 "LeftArgumentsModel" "at" "I") (List.mem_cons_of_mem _ (List.mem_append_left _ (List.mem_of_getElem? (i := 3) rfl)))) (fun _ h9 => h9) rfl (by decide +kernel) rfl rfl (Nat.le_of_ble_eq_true rfl) dX12_compare_36 (fun H locs hP hD hS => ?_)
      have hP : va_P (dC, dI) vwCl (wd_d906eaf1 h0 v0 h1 v1 t10 (-1) 3 h2 h3 h4 r0 r1 r2 r3 v3 v4 r4 r5 r6 r7 v5 r8 r9 v6 v7 r10 r11 v8 v9 r12 v10 v11 r13 v12 w13 r14 v14 v15 r15 r16 r17 r18 r19 r20 v16 r21 r22 r23 v17 h1 g0 f18 h2 g1 f19 h3 g2 f20 h4 g3 f21) H := hP
      have hD : va_D A (wd_d906eaf1 h0 v0 h1 v1 t10 (-1) 3 h2 h3 h4 r0 r1 r2 r3 v3 v4 r4 r5 r6 r7 v5 r8 r9 v6 v7 r10 r11 v8 v9 r12 v10 v11 r13 v12 w13 r14 v14 v15 r15 r16 r17 r18 r19 r20 v16 r21 r22 r23 v17 h1 g0 f18 h2 g1 f19 h3 g2 f20 h4 g3 f21) := hD
      refine lv_aload_n hx hb dX12_compare_39 rfl (lv_at hl 1 rfl) ?_
      have hPc := hP.sub (ws' := (wd_d906eaf1 h0 v0 h1 v1 t10 (-1) 3 h2 h3 h4 r0 r1 r2 r3 v3 v4 r4 r5 r6 r7 v5 r8 r9 v6 v7 r10 r11 v8 v9 r12 v10 v11 r13 v12 w13 r14 v14 v15 r15 r16 r17 r18 r19 r20 v16 r21 r22 r23 v17 h1 g0 f18 h2 g1 f19 h3 g2 f20 h4 g3 f21)) [0, 1, 2, 3, 4] rfl
      have hDc := hD.sub (ws' := (wd_d906eaf1 h0 v0 h1 v1 t10 (-1) 3 h2 h3 h4 r0 r1 r2 r3 v3 v4 r4 r5 r6 r7 v5 r8 r9 v6 v7 r10 r11 v8 v9 r12 v10 v11 r13 v12 w13 r14 v14 v15 r15 r16 r17 r18 r19 r20 v16 r21 r22 r23 v17 h1 g0 f18 h2 g1 f19 h3 g2 f20 h4 g3 f21)) [0, 1, 2, 3, 4] (by decide) rfl
      have hKc := hK.sub (tys' := [(g0, .int), (g1, .int), (g2, .int), (g3, .int)]) [0, 1, 2, 3] rfl
      have hFc := va_free (wc := (wd_d906eaf1 h0 v0 h1 v1 t10 (-1) 3 h2 h3 h4 r0 r1 r2 r3 v3 v4 r4 r5 r6 r7 v5 r8 r9 v6 v7 r10 r11 v8 v9 r12 v10 v11 r13 v12 w13 r14 v14 v15 r15 r16 r17 r18 r19 r20 v16 r21 r22 r23 v17 h1 g0 f18 h2 g1 f19 h3 g2 f20 h4 g3 f21)) hD hS hA [0, 1, 2, 3, 4] rfl
      refine va_callv (va_runV (As := []) (rest := []) ⟨hx, hb, hml, hown, hts⟩ (k_X12_sum_3 l dC dI h0 h1 h2 h3 h4 v0 v1 t10 r0 r1 r2 r3 v3 v4 r4 r5 r6 r7 v5 r8 r9 v6 v7 r10 r11 v8 v9 r12 v10 v11 r13 v12 w13 r14 v14 v15 r15 r16 r17 r18 r19 r20 v16 r21 r22 r23 v17 g0 f18 g1 f19 g2 f20 g3 f21 ⟨i_v1a, i_v1b⟩ ⟨by first | omega | decide, by first | omega | decide⟩ ⟨i_v3a, i_v3b⟩ ⟨i_v4a, i_v4b⟩ ⟨i_v5a, i_v5b⟩ ⟨i_v6a, i_v6b⟩ ⟨i_v7a, i_v7b⟩ ⟨i_v8a, i_v8b⟩ ⟨i_v12a, i_v12b⟩ ⟨i_v16a, i_v16b⟩ ⟨i_v17a, i_v17b⟩ ia_f18 (by constructor <;> omega) H.size) (cwV 0 hts g_X12_compare_3_4 rfl rfl rfl (by decide +kernel) ⟨Nat.le_of_ble_eq_true rfl, Nat.le_of_ble_eq_true rfl⟩) (pv_PV12 hPc hKc hDc (q0 := 0) rfl) rfl rfl hl.1 rfl (lv_room (Nat.le_of_ble_eq_true rfl)) dX12_compare_40 ⟨Nat.le_of_ble_eq_true rfl, Nat.le_of_ble_eq_true rfl⟩) hS (fun q _ h => hFc q h) hFc (fun u t H1 locs ht hvm hwra11 hB hz1 hk1 hS => ?_)
      rcases hB with hB | hB
      · skip
        obtain ⟨x12, fn13, fn14, fn15, oa_x12, ob_x12, pt0_ra11, pt1_ra11, pt2_ra11, hP1, hK1, hD1⟩ := hB
        rw [ht] at hP1
        obtain ⟨hP2, hD2⟩ := va_join (wr := []) (w1 := (wd_d906eaf1 h0 v0 h1 v1 x12 (-1) 3 h2 h3 h4 r0 r1 r2 r3 v3 v4 r4 r5 r6 r7 v5 r8 r9 v6 v7 r10 r11 v8 v9 r12 v10 v11 r13 v12 w13 r14 v14 v15 r15 r16 r17 r18 r19 r20 v16 r21 r22 r23 v17 h1 g0 f18 h2 g1 fn13 h3 g2 fn14 h4 g3 fn15)) hP hD [0, 1, 2, 3, 4] [] rfl rfl (by decide) (by decide) hk1 hFc hP1 hD1
        clear hP hD hPc hDc hKc hFc hP1 hK1 hD1 hk1 hz1
        generalize H1 = H at hP2 hS ⊢
        have hP : va_P (dC, dI) vwCl (wd_d906eaf1 h0 v0 h1 v1 x12 (-1) 3 h2 h3 h4 r0 r1 r2 r3 v3 v4 r4 r5 r6 r7 v5 r8 r9 v6 v7 r10 r11 v8 v9 r12 v10 v11 r13 v12 w13 r14 v14 v15 r15 r16 r17 r18 r19 r20 v16 r21 r22 r23 v17 h1 g0 f18 h2 g1 fn13 h3 g2 fn14 h4 g3 fn15) H := hP2
        have hD : va_D A (wd_d906eaf1 h0 v0 h1 v1 x12 (-1) 3 h2 h3 h4 r0 r1 r2 r3 v3 v4 r4 r5 r6 r7 v5 r8 r9 v6 v7 r10 r11 v8 v9 r12 v10 v11 r13 v12 w13 r14 v14 v15 r15 r16 r17 r18 r19 r20 v16 r21 r22 r23 v17 h1 g0 f18 h2 g1 fn13 h3 g2 fn14 h4 g3 fn15) := hD2
        clear hP2 hD2
        have hgR := hgR.app (k' := 1) (D := 9) pt1_ra11 (by decide) (by decide) (by decide) (by decide)
        have hgF := hgR.1
        have hxl := hgF.1
        refine lv_aload_n hx hb dX12_compare_43 rfl (lv_at hl 1 rfl) ?_
        refine lv_iload_n hx hb dX12_compare_44 rfl (lv_at hl 0 rfl) ?_
        refine lv_bipush (v := 61) hx hb dX12_compare_45 (by decide) ?_
        refine lv_icmp_ne (tgt := 55) hx hb dX12_compare_47 (by decide) (fun c16 => ?_) (fun c16 => ?_)
        · skip
          have fc16 : ¬ (ra1.toInt = 61) := fun h9 => c16 (Int32.toInt_inj.mp h9)
          refine lv_iload_n hx hb dX12_compare_55 rfl (lv_at hl 0 rfl) ?_
          refine lv_bipush (v := 60) hx hb dX12_compare_56 (by decide) ?_
          refine lv_icmp_ne (tgt := 66) hx hb dX12_compare_58 (by decide) (fun c17 => ?_) (fun c17 => ?_)
          · skip
            have fc17 : ¬ (ra1.toInt = 60) := fun h9 => c17 (Int32.toInt_inj.mp h9)
            refine lv_bipush (v := 8) hx hb dX12_compare_66 (by decide) ?_
            refine lv_iconst (v := 0) hx hb dX12_compare_68 (by decide) ?_
            have hPc := hP.sub (ws' := (wd_c62683a8 h0 v0 h1 v1 x12 (-1) 3 h2 h3 h4 r0 r1 r2 r3 v3 v4 r4 r5 r6 r7 v5 r8 r9 v6 v7 r10 r11 v8 v9 r12 v10 v11 r13 v12 w13 r14 v14 v15 r15 r16 r17 r18 r19 r20 v16 r21 r22 r23 v17 h2 g1 fn13 h3 g2 fn14 h4 g3 fn15)) [0, 2, 3, 4] rfl
            have hDc := hD.sub (ws' := (wd_c62683a8 h0 v0 h1 v1 x12 (-1) 3 h2 h3 h4 r0 r1 r2 r3 v3 v4 r4 r5 r6 r7 v5 r8 r9 v6 v7 r10 r11 v8 v9 r12 v10 v11 r13 v12 w13 r14 v14 v15 r15 r16 r17 r18 r19 r20 v16 r21 r22 r23 v17 h2 g1 fn13 h3 g2 fn14 h4 g3 fn15)) [0, 2, 3, 4] (by decide) rfl
            have hKc := hK.sub (tys' := [(g1, .int), (g2, .int), (g3, .int)]) [1, 2, 3] rfl
            have hFc := va_free (wc := (wd_c62683a8 h0 v0 h1 v1 x12 (-1) 3 h2 h3 h4 r0 r1 r2 r3 v3 v4 r4 r5 r6 r7 v5 r8 r9 v6 v7 r10 r11 v8 v9 r12 v10 v11 r13 v12 w13 r14 v14 v15 r15 r16 r17 r18 r19 r20 v16 r21 r22 r23 v17 h2 g1 fn13 h3 g2 fn14 h4 g3 fn15)) hD hS hA [0, 2, 3, 4] rfl
            refine va_callv (va_runV (As := [.int 8, .int 0]) (rest := []) ⟨hx, hb, hml, hown, hts⟩ (k_X12_put l dC dI h0 h2 h3 h4 v0 h1 v1 x12 ((-1)) 3 r0 r1 r2 r3 v3 v4 r4 r5 r6 r7 v5 r8 r9 v6 v7 r10 r11 v8 v9 r12 v10 v11 r13 v12 w13 r14 v14 v15 r15 r16 r17 r18 r19 r20 v16 r21 r22 r23 v17 g1 fn13 g2 fn14 g3 fn15 8 0 ⟨i_v1a, i_v1b⟩ ⟨i_v3a, i_v3b⟩ ⟨i_v4a, i_v4b⟩ ⟨i_v5a, i_v5b⟩ ⟨i_v6a, i_v6b⟩ ⟨i_v7a, i_v7b⟩ ⟨i_v8a, i_v8b⟩ ⟨i_v12a, i_v12b⟩ ⟨i_v16a, i_v16b⟩ ⟨i_v17a, i_v17b⟩ (by constructor <;> omega) H.size) (cwV 2 hts g_X12_compare_3_5 rfl rfl rfl (by decide +kernel) ⟨Nat.le_of_ble_eq_true rfl, Nat.le_of_ble_eq_true rfl⟩) (pv_PV12 hPc hKc hDc (q0 := 0) rfl) rfl rfl hl.1 rfl (lv_room (Nat.le_of_ble_eq_true rfl)) dX12_compare_69 ⟨Nat.le_of_ble_eq_true rfl, Nat.le_of_ble_eq_true rfl⟩) hS (fun q _ h => hFc q h) hFc (fun u t H1 locs ht hvm hwra18 hB hz1 hk1 hS => ?_)
            have hkra18_0 : (((-1) : Int32)).toInt = -1 := by decide
            have hkra18_1 : ((0 : Int32)).toInt = 0 := by decide
            have hkra18_2 : ((3 : Int32)).toInt = 3 := by decide
            have hkra18_3 : ((8 : Int32)).toInt = 8 := by decide
            obtain ⟨fn19, fn20, fn21, pt0_ra18, hP1, hK1, hD1⟩ := hB
            rw [ht] at hP1
            obtain ⟨hP2, hD2⟩ := va_join (wr := (wd_d0032b31 h1 g0 f18)) (w1 := (wd_c62683a8 h0 v0 h1 v1 x12 (-1) 3 h2 h3 h4 r0 r1 r2 r3 v3 v4 r4 r5 r6 r7 v5 r8 r9 v6 v7 r10 r11 v8 v9 r12 v10 v11 r13 v12 w13 r14 v14 v15 r15 r16 r17 r18 r19 r20 v16 r21 r22 r23 v17 h2 g1 fn19 h3 g2 fn20 h4 g3 fn21)) hP hD [0, 2, 3, 4] [1] rfl rfl (by decide) (by decide) hk1 hFc hP1 hD1
            clear hP hD hPc hDc hKc hFc hP1 hK1 hD1 hk1 hz1
            generalize H1 = H at hP2 hS ⊢
            have hP := hP2.sub (ws' := (wd_d906eaf1 h0 v0 h1 v1 x12 (-1) 3 h2 h3 h4 r0 r1 r2 r3 v3 v4 r4 r5 r6 r7 v5 r8 r9 v6 v7 r10 r11 v8 v9 r12 v10 v11 r13 v12 w13 r14 v14 v15 r15 r16 r17 r18 r19 r20 v16 r21 r22 r23 v17 h1 g0 f18 h2 g1 fn19 h3 g2 fn20 h4 g3 fn21)) [1, 0, 2, 3, 4] rfl
            have hD := hD2.sub (ws' := (wd_d906eaf1 h0 v0 h1 v1 x12 (-1) 3 h2 h3 h4 r0 r1 r2 r3 v3 v4 r4 r5 r6 r7 v5 r8 r9 v6 v7 r10 r11 v8 v9 r12 v10 v11 r13 v12 w13 r14 v14 v15 r15 r16 r17 r18 r19 r20 v16 r21 r22 r23 v17 h1 g0 f18 h2 g1 fn19 h3 g2 fn20 h4 g3 fn21)) [1, 0, 2, 3, 4] (by decide) rfl
            clear hP2 hD2
            have hgR := hgR.bin (k' := 0) (D := 9) pt0_ra18 (by decide) (by decide) (by decide) (by decide) (by decide)
            have hgF := hgR.1
            have hxl := hgF.1
            have hxs := pt0_ra18.step
            subst hQ
            have hP9 := hP.sub (ws' := (wd_d906eaf1 h0 v0 h1 v1 x12 (-1) 3 h2 h3 h4 r0 r1 r2 r3 v3 v4 r4 r5 r6 r7 v5 r8 r9 v6 v7 r10 r11 v8 v9 r12 v10 v11 r13 v12 w13 r14 v14 v15 r15 r16 r17 r18 r19 r20 v16 r21 r22 r23 v17 h1 g0 f18 h2 g1 fn19 h3 g2 fn20 h4 g3 fn21)) [0, 1, 2, 3, 4] rfl
            have hD9 := hD.sub (ws' := (wd_d906eaf1 h0 v0 h1 v1 x12 (-1) 3 h2 h3 h4 r0 r1 r2 r3 v3 v4 r4 r5 r6 r7 v5 r8 r9 v6 v7 r10 r11 v8 v9 r12 v10 v11 r13 v12 w13 r14 v14 v15 r15 r16 r17 r18 r19 r20 v16 r21 r22 r23 v17 h1 g0 f18 h2 g1 fn19 h3 g2 fn20 h4 g3 fn21)) [0, 1, 2, 3, 4] (by decide) rfl
            have hK9 := hK.sub (tys' := []) [] rfl
            exact W.vret hx hb hr (fun t ht hW => ⟨⟨(), rfl, trivial, Or.inl ⟨x12, fn19, fn20, fn21, oa_x12, ob_x12, by constructor <;> omega, by exact hgR.mono (by decide), by first | (apply pg_cmp.ok <;> first | assumption | omega) | (apply pg_cmp.no <;> first | assumption | omega), by rw [ht]; exact hP9, va_K.moved hW.alike hK9, hD9⟩⟩, hS.F ht⟩) hS.2.2 dX12_compare_72
          · skip
            have fc17 : ra1.toInt = 60 := congrArg Int32.toInt c17
            refine lv_bipush (v := 7) hx hb dX12_compare_61 (by decide) ?_
            refine lv_goto (tgt := 68) hx hb dX12_compare_63 (by decide) ?_
            refine lv_iconst (v := 0) hx hb dX12_compare_68 (by decide) ?_
            have hPc := hP.sub (ws' := (wd_c62683a8 h0 v0 h1 v1 x12 (-1) 3 h2 h3 h4 r0 r1 r2 r3 v3 v4 r4 r5 r6 r7 v5 r8 r9 v6 v7 r10 r11 v8 v9 r12 v10 v11 r13 v12 w13 r14 v14 v15 r15 r16 r17 r18 r19 r20 v16 r21 r22 r23 v17 h2 g1 fn13 h3 g2 fn14 h4 g3 fn15)) [0, 2, 3, 4] rfl
            have hDc := hD.sub (ws' := (wd_c62683a8 h0 v0 h1 v1 x12 (-1) 3 h2 h3 h4 r0 r1 r2 r3 v3 v4 r4 r5 r6 r7 v5 r8 r9 v6 v7 r10 r11 v8 v9 r12 v10 v11 r13 v12 w13 r14 v14 v15 r15 r16 r17 r18 r19 r20 v16 r21 r22 r23 v17 h2 g1 fn13 h3 g2 fn14 h4 g3 fn15)) [0, 2, 3, 4] (by decide) rfl
            have hKc := hK.sub (tys' := [(g1, .int), (g2, .int), (g3, .int)]) [1, 2, 3] rfl
            have hFc := va_free (wc := (wd_c62683a8 h0 v0 h1 v1 x12 (-1) 3 h2 h3 h4 r0 r1 r2 r3 v3 v4 r4 r5 r6 r7 v5 r8 r9 v6 v7 r10 r11 v8 v9 r12 v10 v11 r13 v12 w13 r14 v14 v15 r15 r16 r17 r18 r19 r20 v16 r21 r22 r23 v17 h2 g1 fn13 h3 g2 fn14 h4 g3 fn15)) hD hS hA [0, 2, 3, 4] rfl
            refine va_callv (va_runV (As := [.int 7, .int 0]) (rest := []) ⟨hx, hb, hml, hown, hts⟩ (k_X12_put l dC dI h0 h2 h3 h4 v0 h1 v1 x12 ((-1)) 3 r0 r1 r2 r3 v3 v4 r4 r5 r6 r7 v5 r8 r9 v6 v7 r10 r11 v8 v9 r12 v10 v11 r13 v12 w13 r14 v14 v15 r15 r16 r17 r18 r19 r20 v16 r21 r22 r23 v17 g1 fn13 g2 fn14 g3 fn15 7 0 ⟨i_v1a, i_v1b⟩ ⟨i_v3a, i_v3b⟩ ⟨i_v4a, i_v4b⟩ ⟨i_v5a, i_v5b⟩ ⟨i_v6a, i_v6b⟩ ⟨i_v7a, i_v7b⟩ ⟨i_v8a, i_v8b⟩ ⟨i_v12a, i_v12b⟩ ⟨i_v16a, i_v16b⟩ ⟨i_v17a, i_v17b⟩ (by constructor <;> omega) H.size) (cwV 2 hts g_X12_compare_3_5 rfl rfl rfl (by decide +kernel) ⟨Nat.le_of_ble_eq_true rfl, Nat.le_of_ble_eq_true rfl⟩) (pv_PV12 hPc hKc hDc (q0 := 0) rfl) rfl rfl hl.1 rfl (lv_room (Nat.le_of_ble_eq_true rfl)) dX12_compare_69 ⟨Nat.le_of_ble_eq_true rfl, Nat.le_of_ble_eq_true rfl⟩) hS (fun q _ h => hFc q h) hFc (fun u t H1 locs ht hvm hwra22 hB hz1 hk1 hS => ?_)
            have hkra22_0 : (((-1) : Int32)).toInt = -1 := by decide
            have hkra22_1 : ((0 : Int32)).toInt = 0 := by decide
            have hkra22_2 : ((3 : Int32)).toInt = 3 := by decide
            have hkra22_3 : ((7 : Int32)).toInt = 7 := by decide
            obtain ⟨fn23, fn24, fn25, pt0_ra22, hP1, hK1, hD1⟩ := hB
            rw [ht] at hP1
            obtain ⟨hP2, hD2⟩ := va_join (wr := (wd_d0032b31 h1 g0 f18)) (w1 := (wd_c62683a8 h0 v0 h1 v1 x12 (-1) 3 h2 h3 h4 r0 r1 r2 r3 v3 v4 r4 r5 r6 r7 v5 r8 r9 v6 v7 r10 r11 v8 v9 r12 v10 v11 r13 v12 w13 r14 v14 v15 r15 r16 r17 r18 r19 r20 v16 r21 r22 r23 v17 h2 g1 fn23 h3 g2 fn24 h4 g3 fn25)) hP hD [0, 2, 3, 4] [1] rfl rfl (by decide) (by decide) hk1 hFc hP1 hD1
            clear hP hD hPc hDc hKc hFc hP1 hK1 hD1 hk1 hz1
            generalize H1 = H at hP2 hS ⊢
            have hP := hP2.sub (ws' := (wd_d906eaf1 h0 v0 h1 v1 x12 (-1) 3 h2 h3 h4 r0 r1 r2 r3 v3 v4 r4 r5 r6 r7 v5 r8 r9 v6 v7 r10 r11 v8 v9 r12 v10 v11 r13 v12 w13 r14 v14 v15 r15 r16 r17 r18 r19 r20 v16 r21 r22 r23 v17 h1 g0 f18 h2 g1 fn23 h3 g2 fn24 h4 g3 fn25)) [1, 0, 2, 3, 4] rfl
            have hD := hD2.sub (ws' := (wd_d906eaf1 h0 v0 h1 v1 x12 (-1) 3 h2 h3 h4 r0 r1 r2 r3 v3 v4 r4 r5 r6 r7 v5 r8 r9 v6 v7 r10 r11 v8 v9 r12 v10 v11 r13 v12 w13 r14 v14 v15 r15 r16 r17 r18 r19 r20 v16 r21 r22 r23 v17 h1 g0 f18 h2 g1 fn23 h3 g2 fn24 h4 g3 fn25)) [1, 0, 2, 3, 4] (by decide) rfl
            clear hP2 hD2
            have hgR := hgR.bin (k' := 0) (D := 9) pt0_ra22 (by decide) (by decide) (by decide) (by decide) (by decide)
            have hgF := hgR.1
            have hxl := hgF.1
            have hxs := pt0_ra22.step
            subst hQ
            have hP9 := hP.sub (ws' := (wd_d906eaf1 h0 v0 h1 v1 x12 (-1) 3 h2 h3 h4 r0 r1 r2 r3 v3 v4 r4 r5 r6 r7 v5 r8 r9 v6 v7 r10 r11 v8 v9 r12 v10 v11 r13 v12 w13 r14 v14 v15 r15 r16 r17 r18 r19 r20 v16 r21 r22 r23 v17 h1 g0 f18 h2 g1 fn23 h3 g2 fn24 h4 g3 fn25)) [0, 1, 2, 3, 4] rfl
            have hD9 := hD.sub (ws' := (wd_d906eaf1 h0 v0 h1 v1 x12 (-1) 3 h2 h3 h4 r0 r1 r2 r3 v3 v4 r4 r5 r6 r7 v5 r8 r9 v6 v7 r10 r11 v8 v9 r12 v10 v11 r13 v12 w13 r14 v14 v15 r15 r16 r17 r18 r19 r20 v16 r21 r22 r23 v17 h1 g0 f18 h2 g1 fn23 h3 g2 fn24 h4 g3 fn25)) [0, 1, 2, 3, 4] (by decide) rfl
            have hK9 := hK.sub (tys' := []) [] rfl
            exact W.vret hx hb hr (fun t ht hW => ⟨⟨(), rfl, trivial, Or.inl ⟨x12, fn23, fn24, fn25, oa_x12, ob_x12, by constructor <;> omega, by exact hgR.mono (by decide), by first | (apply pg_cmp.ok <;> first | assumption | omega) | (apply pg_cmp.no <;> first | assumption | omega), by rw [ht]; exact hP9, va_K.moved hW.alike hK9, hD9⟩⟩, hS.F ht⟩) hS.2.2 dX12_compare_72
        · skip
          have fc16 : ra1.toInt = 61 := congrArg Int32.toInt c16
          refine lv_bipush (v := 6) hx hb dX12_compare_50 (by decide) ?_
          refine lv_goto (tgt := 68) hx hb dX12_compare_52 (by decide) ?_
          refine lv_iconst (v := 0) hx hb dX12_compare_68 (by decide) ?_
          have hPc := hP.sub (ws' := (wd_c62683a8 h0 v0 h1 v1 x12 (-1) 3 h2 h3 h4 r0 r1 r2 r3 v3 v4 r4 r5 r6 r7 v5 r8 r9 v6 v7 r10 r11 v8 v9 r12 v10 v11 r13 v12 w13 r14 v14 v15 r15 r16 r17 r18 r19 r20 v16 r21 r22 r23 v17 h2 g1 fn13 h3 g2 fn14 h4 g3 fn15)) [0, 2, 3, 4] rfl
          have hDc := hD.sub (ws' := (wd_c62683a8 h0 v0 h1 v1 x12 (-1) 3 h2 h3 h4 r0 r1 r2 r3 v3 v4 r4 r5 r6 r7 v5 r8 r9 v6 v7 r10 r11 v8 v9 r12 v10 v11 r13 v12 w13 r14 v14 v15 r15 r16 r17 r18 r19 r20 v16 r21 r22 r23 v17 h2 g1 fn13 h3 g2 fn14 h4 g3 fn15)) [0, 2, 3, 4] (by decide) rfl
          have hKc := hK.sub (tys' := [(g1, .int), (g2, .int), (g3, .int)]) [1, 2, 3] rfl
          have hFc := va_free (wc := (wd_c62683a8 h0 v0 h1 v1 x12 (-1) 3 h2 h3 h4 r0 r1 r2 r3 v3 v4 r4 r5 r6 r7 v5 r8 r9 v6 v7 r10 r11 v8 v9 r12 v10 v11 r13 v12 w13 r14 v14 v15 r15 r16 r17 r18 r19 r20 v16 r21 r22 r23 v17 h2 g1 fn13 h3 g2 fn14 h4 g3 fn15)) hD hS hA [0, 2, 3, 4] rfl
          refine va_callv (va_runV (As := [.int 6, .int 0]) (rest := []) ⟨hx, hb, hml, hown, hts⟩ (k_X12_put l dC dI h0 h2 h3 h4 v0 h1 v1 x12 ((-1)) 3 r0 r1 r2 r3 v3 v4 r4 r5 r6 r7 v5 r8 r9 v6 v7 r10 r11 v8 v9 r12 v10 v11 r13 v12 w13 r14 v14 v15 r15 r16 r17 r18 r19 r20 v16 r21 r22 r23 v17 g1 fn13 g2 fn14 g3 fn15 6 0 ⟨i_v1a, i_v1b⟩ ⟨i_v3a, i_v3b⟩ ⟨i_v4a, i_v4b⟩ ⟨i_v5a, i_v5b⟩ ⟨i_v6a, i_v6b⟩ ⟨i_v7a, i_v7b⟩ ⟨i_v8a, i_v8b⟩ ⟨i_v12a, i_v12b⟩ ⟨i_v16a, i_v16b⟩ ⟨i_v17a, i_v17b⟩ (by constructor <;> omega) H.size) (cwV 2 hts g_X12_compare_3_5 rfl rfl rfl (by decide +kernel) ⟨Nat.le_of_ble_eq_true rfl, Nat.le_of_ble_eq_true rfl⟩) (pv_PV12 hPc hKc hDc (q0 := 0) rfl) rfl rfl hl.1 rfl (lv_room (Nat.le_of_ble_eq_true rfl)) dX12_compare_69 ⟨Nat.le_of_ble_eq_true rfl, Nat.le_of_ble_eq_true rfl⟩) hS (fun q _ h => hFc q h) hFc (fun u t H1 locs ht hvm hwra26 hB hz1 hk1 hS => ?_)
          have hkra26_0 : (((-1) : Int32)).toInt = -1 := by decide
          have hkra26_1 : ((0 : Int32)).toInt = 0 := by decide
          have hkra26_2 : ((3 : Int32)).toInt = 3 := by decide
          have hkra26_3 : ((6 : Int32)).toInt = 6 := by decide
          obtain ⟨fn27, fn28, fn29, pt0_ra26, hP1, hK1, hD1⟩ := hB
          rw [ht] at hP1
          obtain ⟨hP2, hD2⟩ := va_join (wr := (wd_d0032b31 h1 g0 f18)) (w1 := (wd_c62683a8 h0 v0 h1 v1 x12 (-1) 3 h2 h3 h4 r0 r1 r2 r3 v3 v4 r4 r5 r6 r7 v5 r8 r9 v6 v7 r10 r11 v8 v9 r12 v10 v11 r13 v12 w13 r14 v14 v15 r15 r16 r17 r18 r19 r20 v16 r21 r22 r23 v17 h2 g1 fn27 h3 g2 fn28 h4 g3 fn29)) hP hD [0, 2, 3, 4] [1] rfl rfl (by decide) (by decide) hk1 hFc hP1 hD1
          clear hP hD hPc hDc hKc hFc hP1 hK1 hD1 hk1 hz1
          generalize H1 = H at hP2 hS ⊢
          have hP := hP2.sub (ws' := (wd_d906eaf1 h0 v0 h1 v1 x12 (-1) 3 h2 h3 h4 r0 r1 r2 r3 v3 v4 r4 r5 r6 r7 v5 r8 r9 v6 v7 r10 r11 v8 v9 r12 v10 v11 r13 v12 w13 r14 v14 v15 r15 r16 r17 r18 r19 r20 v16 r21 r22 r23 v17 h1 g0 f18 h2 g1 fn27 h3 g2 fn28 h4 g3 fn29)) [1, 0, 2, 3, 4] rfl
          have hD := hD2.sub (ws' := (wd_d906eaf1 h0 v0 h1 v1 x12 (-1) 3 h2 h3 h4 r0 r1 r2 r3 v3 v4 r4 r5 r6 r7 v5 r8 r9 v6 v7 r10 r11 v8 v9 r12 v10 v11 r13 v12 w13 r14 v14 v15 r15 r16 r17 r18 r19 r20 v16 r21 r22 r23 v17 h1 g0 f18 h2 g1 fn27 h3 g2 fn28 h4 g3 fn29)) [1, 0, 2, 3, 4] (by decide) rfl
          clear hP2 hD2
          have hgR := hgR.bin (k' := 0) (D := 9) pt0_ra26 (by decide) (by decide) (by decide) (by decide) (by decide)
          have hgF := hgR.1
          have hxl := hgF.1
          have hxs := pt0_ra26.step
          subst hQ
          have hP9 := hP.sub (ws' := (wd_d906eaf1 h0 v0 h1 v1 x12 (-1) 3 h2 h3 h4 r0 r1 r2 r3 v3 v4 r4 r5 r6 r7 v5 r8 r9 v6 v7 r10 r11 v8 v9 r12 v10 v11 r13 v12 w13 r14 v14 v15 r15 r16 r17 r18 r19 r20 v16 r21 r22 r23 v17 h1 g0 f18 h2 g1 fn27 h3 g2 fn28 h4 g3 fn29)) [0, 1, 2, 3, 4] rfl
          have hD9 := hD.sub (ws' := (wd_d906eaf1 h0 v0 h1 v1 x12 (-1) 3 h2 h3 h4 r0 r1 r2 r3 v3 v4 r4 r5 r6 r7 v5 r8 r9 v6 v7 r10 r11 v8 v9 r12 v10 v11 r13 v12 w13 r14 v14 v15 r15 r16 r17 r18 r19 r20 v16 r21 r22 r23 v17 h1 g0 f18 h2 g1 fn27 h3 g2 fn28 h4 g3 fn29)) [0, 1, 2, 3, 4] (by decide) rfl
          have hK9 := hK.sub (tys' := []) [] rfl
          exact W.vret hx hb hr (fun t ht hW => ⟨⟨(), rfl, trivial, Or.inl ⟨x12, fn27, fn28, fn29, oa_x12, ob_x12, by constructor <;> omega, by exact hgR.mono (by decide), by first | (apply pg_cmp.ok <;> first | assumption | omega) | (apply pg_cmp.no <;> first | assumption | omega), by rw [ht]; exact hP9, va_K.moved hW.alike hK9, hD9⟩⟩, hS.F ht⟩) hS.2.2 dX12_compare_72
      · skip
        obtain ⟨x30, x31, x32, fn33, fn34, fn35, oa_x30, ob_x30, oa_x31, ob_x31, pt0_ra11, pt1_ra11, pt2_ra11, hP1, hK1, hD1⟩ := hB
        rw [ht] at hP1
        obtain ⟨hP2, hD2⟩ := va_join (wr := []) (w1 := (wd_d906eaf1 h0 v0 h1 v1 x30 x31 x32 h2 h3 h4 r0 r1 r2 r3 v3 v4 r4 r5 r6 r7 v5 r8 r9 v6 v7 r10 r11 v8 v9 r12 v10 v11 r13 v12 w13 r14 v14 v15 r15 r16 r17 r18 r19 r20 v16 r21 r22 r23 v17 h1 g0 f18 h2 g1 fn33 h3 g2 fn34 h4 g3 fn35)) hP hD [0, 1, 2, 3, 4] [] rfl rfl (by decide) (by decide) hk1 hFc hP1 hD1
        clear hP hD hPc hDc hKc hFc hP1 hK1 hD1 hk1 hz1
        generalize H1 = H at hP2 hS ⊢
        have hP : va_P (dC, dI) vwCl (wd_d906eaf1 h0 v0 h1 v1 x30 x31 x32 h2 h3 h4 r0 r1 r2 r3 v3 v4 r4 r5 r6 r7 v5 r8 r9 v6 v7 r10 r11 v8 v9 r12 v10 v11 r13 v12 w13 r14 v14 v15 r15 r16 r17 r18 r19 r20 v16 r21 r22 r23 v17 h1 g0 f18 h2 g1 fn33 h3 g2 fn34 h4 g3 fn35) H := hP2
        have hD : va_D A (wd_d906eaf1 h0 v0 h1 v1 x30 x31 x32 h2 h3 h4 r0 r1 r2 r3 v3 v4 r4 r5 r6 r7 v5 r8 r9 v6 v7 r10 r11 v8 v9 r12 v10 v11 r13 v12 w13 r14 v14 v15 r15 r16 r17 r18 r19 r20 v16 r21 r22 r23 v17 h1 g0 f18 h2 g1 fn33 h3 g2 fn34 h4 g3 fn35) := hD2
        clear hP2 hD2
        have hgF := hgF.app pt1_ra11
        have hxl := hgF.1
        refine lv_aload_n hx hb dX12_compare_43 rfl (lv_at hl 1 rfl) ?_
        refine lv_iload_n hx hb dX12_compare_44 rfl (lv_at hl 0 rfl) ?_
        refine lv_bipush (v := 61) hx hb dX12_compare_45 (by decide) ?_
        refine lv_icmp_ne (tgt := 55) hx hb dX12_compare_47 (by decide) (fun c36 => ?_) (fun c36 => ?_)
        · skip
          have fc36 : ¬ (ra1.toInt = 61) := fun h9 => c36 (Int32.toInt_inj.mp h9)
          refine lv_iload_n hx hb dX12_compare_55 rfl (lv_at hl 0 rfl) ?_
          refine lv_bipush (v := 60) hx hb dX12_compare_56 (by decide) ?_
          refine lv_icmp_ne (tgt := 66) hx hb dX12_compare_58 (by decide) (fun c37 => ?_) (fun c37 => ?_)
          · skip
            have fc37 : ¬ (ra1.toInt = 60) := fun h9 => c37 (Int32.toInt_inj.mp h9)
            refine lv_bipush (v := 8) hx hb dX12_compare_66 (by decide) ?_
            refine lv_iconst (v := 0) hx hb dX12_compare_68 (by decide) ?_
            have hPc := hP.sub (ws' := (wd_c62683a8 h0 v0 h1 v1 x30 x31 x32 h2 h3 h4 r0 r1 r2 r3 v3 v4 r4 r5 r6 r7 v5 r8 r9 v6 v7 r10 r11 v8 v9 r12 v10 v11 r13 v12 w13 r14 v14 v15 r15 r16 r17 r18 r19 r20 v16 r21 r22 r23 v17 h2 g1 fn33 h3 g2 fn34 h4 g3 fn35)) [0, 2, 3, 4] rfl
            have hDc := hD.sub (ws' := (wd_c62683a8 h0 v0 h1 v1 x30 x31 x32 h2 h3 h4 r0 r1 r2 r3 v3 v4 r4 r5 r6 r7 v5 r8 r9 v6 v7 r10 r11 v8 v9 r12 v10 v11 r13 v12 w13 r14 v14 v15 r15 r16 r17 r18 r19 r20 v16 r21 r22 r23 v17 h2 g1 fn33 h3 g2 fn34 h4 g3 fn35)) [0, 2, 3, 4] (by decide) rfl
            have hKc := hK.sub (tys' := [(g1, .int), (g2, .int), (g3, .int)]) [1, 2, 3] rfl
            have hFc := va_free (wc := (wd_c62683a8 h0 v0 h1 v1 x30 x31 x32 h2 h3 h4 r0 r1 r2 r3 v3 v4 r4 r5 r6 r7 v5 r8 r9 v6 v7 r10 r11 v8 v9 r12 v10 v11 r13 v12 w13 r14 v14 v15 r15 r16 r17 r18 r19 r20 v16 r21 r22 r23 v17 h2 g1 fn33 h3 g2 fn34 h4 g3 fn35)) hD hS hA [0, 2, 3, 4] rfl
            refine va_callv (va_runV (As := [.int 8, .int 0]) (rest := []) ⟨hx, hb, hml, hown, hts⟩ (k_X12_put l dC dI h0 h2 h3 h4 v0 h1 v1 x30 x31 x32 r0 r1 r2 r3 v3 v4 r4 r5 r6 r7 v5 r8 r9 v6 v7 r10 r11 v8 v9 r12 v10 v11 r13 v12 w13 r14 v14 v15 r15 r16 r17 r18 r19 r20 v16 r21 r22 r23 v17 g1 fn33 g2 fn34 g3 fn35 8 0 ⟨i_v1a, i_v1b⟩ ⟨i_v3a, i_v3b⟩ ⟨i_v4a, i_v4b⟩ ⟨i_v5a, i_v5b⟩ ⟨i_v6a, i_v6b⟩ ⟨i_v7a, i_v7b⟩ ⟨i_v8a, i_v8b⟩ ⟨i_v12a, i_v12b⟩ ⟨i_v16a, i_v16b⟩ ⟨i_v17a, i_v17b⟩ (by constructor <;> omega) H.size) (cwV 2 hts g_X12_compare_3_5 rfl rfl rfl (by decide +kernel) ⟨Nat.le_of_ble_eq_true rfl, Nat.le_of_ble_eq_true rfl⟩) (pv_PV12 hPc hKc hDc (q0 := 0) rfl) rfl rfl hl.1 rfl (lv_room (Nat.le_of_ble_eq_true rfl)) dX12_compare_69 ⟨Nat.le_of_ble_eq_true rfl, Nat.le_of_ble_eq_true rfl⟩) hS (fun q _ h => hFc q h) hFc (fun u t H1 locs ht hvm hwra38 hB hz1 hk1 hS => ?_)
            have hkra38_0 : ((0 : Int32)).toInt = 0 := by decide
            have hkra38_1 : ((8 : Int32)).toInt = 8 := by decide
            obtain ⟨fn39, fn40, fn41, pt0_ra38, hP1, hK1, hD1⟩ := hB
            rw [ht] at hP1
            obtain ⟨hP2, hD2⟩ := va_join (wr := (wd_d0032b31 h1 g0 f18)) (w1 := (wd_c62683a8 h0 v0 h1 v1 x30 x31 x32 h2 h3 h4 r0 r1 r2 r3 v3 v4 r4 r5 r6 r7 v5 r8 r9 v6 v7 r10 r11 v8 v9 r12 v10 v11 r13 v12 w13 r14 v14 v15 r15 r16 r17 r18 r19 r20 v16 r21 r22 r23 v17 h2 g1 fn39 h3 g2 fn40 h4 g3 fn41)) hP hD [0, 2, 3, 4] [1] rfl rfl (by decide) (by decide) hk1 hFc hP1 hD1
            clear hP hD hPc hDc hKc hFc hP1 hK1 hD1 hk1 hz1
            generalize H1 = H at hP2 hS ⊢
            have hP := hP2.sub (ws' := (wd_d906eaf1 h0 v0 h1 v1 x30 x31 x32 h2 h3 h4 r0 r1 r2 r3 v3 v4 r4 r5 r6 r7 v5 r8 r9 v6 v7 r10 r11 v8 v9 r12 v10 v11 r13 v12 w13 r14 v14 v15 r15 r16 r17 r18 r19 r20 v16 r21 r22 r23 v17 h1 g0 f18 h2 g1 fn39 h3 g2 fn40 h4 g3 fn41)) [1, 0, 2, 3, 4] rfl
            have hD := hD2.sub (ws' := (wd_d906eaf1 h0 v0 h1 v1 x30 x31 x32 h2 h3 h4 r0 r1 r2 r3 v3 v4 r4 r5 r6 r7 v5 r8 r9 v6 v7 r10 r11 v8 v9 r12 v10 v11 r13 v12 w13 r14 v14 v15 r15 r16 r17 r18 r19 r20 v16 r21 r22 r23 v17 h1 g0 f18 h2 g1 fn39 h3 g2 fn40 h4 g3 fn41)) [1, 0, 2, 3, 4] (by decide) rfl
            clear hP2 hD2
            have hgF := hgF.put pt0_ra38
            have hxl := hgF.1
            have hxs := pt0_ra38.step
            subst hQ
            have hP9 := hP.sub (ws' := (wd_d906eaf1 h0 v0 h1 v1 x30 x31 x32 h2 h3 h4 r0 r1 r2 r3 v3 v4 r4 r5 r6 r7 v5 r8 r9 v6 v7 r10 r11 v8 v9 r12 v10 v11 r13 v12 w13 r14 v14 v15 r15 r16 r17 r18 r19 r20 v16 r21 r22 r23 v17 h1 g0 f18 h2 g1 fn39 h3 g2 fn40 h4 g3 fn41)) [0, 1, 2, 3, 4] rfl
            have hD9 := hD.sub (ws' := (wd_d906eaf1 h0 v0 h1 v1 x30 x31 x32 h2 h3 h4 r0 r1 r2 r3 v3 v4 r4 r5 r6 r7 v5 r8 r9 v6 v7 r10 r11 v8 v9 r12 v10 v11 r13 v12 w13 r14 v14 v15 r15 r16 r17 r18 r19 r20 v16 r21 r22 r23 v17 h1 g0 f18 h2 g1 fn39 h3 g2 fn40 h4 g3 fn41)) [0, 1, 2, 3, 4] (by decide) rfl
            have hK9 := hK.sub (tys' := []) [] rfl
            exact W.vret hx hb hr (fun t ht hW => ⟨⟨(), rfl, trivial, Or.inr (⟨x30, x31, x32, fn39, fn40, fn41, oa_x30, ob_x30, oa_x31, ob_x31, by constructor <;> omega, by exact hgF, by first | (apply pg_cmp.ok <;> first | assumption | omega) | (apply pg_cmp.no <;> first | assumption | omega), by rw [ht]; exact hP9, va_K.moved hW.alike hK9, hD9⟩)⟩, hS.F ht⟩) hS.2.2 dX12_compare_72
          · skip
            have fc37 : ra1.toInt = 60 := congrArg Int32.toInt c37
            refine lv_bipush (v := 7) hx hb dX12_compare_61 (by decide) ?_
            refine lv_goto (tgt := 68) hx hb dX12_compare_63 (by decide) ?_
            refine lv_iconst (v := 0) hx hb dX12_compare_68 (by decide) ?_
            have hPc := hP.sub (ws' := (wd_c62683a8 h0 v0 h1 v1 x30 x31 x32 h2 h3 h4 r0 r1 r2 r3 v3 v4 r4 r5 r6 r7 v5 r8 r9 v6 v7 r10 r11 v8 v9 r12 v10 v11 r13 v12 w13 r14 v14 v15 r15 r16 r17 r18 r19 r20 v16 r21 r22 r23 v17 h2 g1 fn33 h3 g2 fn34 h4 g3 fn35)) [0, 2, 3, 4] rfl
            have hDc := hD.sub (ws' := (wd_c62683a8 h0 v0 h1 v1 x30 x31 x32 h2 h3 h4 r0 r1 r2 r3 v3 v4 r4 r5 r6 r7 v5 r8 r9 v6 v7 r10 r11 v8 v9 r12 v10 v11 r13 v12 w13 r14 v14 v15 r15 r16 r17 r18 r19 r20 v16 r21 r22 r23 v17 h2 g1 fn33 h3 g2 fn34 h4 g3 fn35)) [0, 2, 3, 4] (by decide) rfl
            have hKc := hK.sub (tys' := [(g1, .int), (g2, .int), (g3, .int)]) [1, 2, 3] rfl
            have hFc := va_free (wc := (wd_c62683a8 h0 v0 h1 v1 x30 x31 x32 h2 h3 h4 r0 r1 r2 r3 v3 v4 r4 r5 r6 r7 v5 r8 r9 v6 v7 r10 r11 v8 v9 r12 v10 v11 r13 v12 w13 r14 v14 v15 r15 r16 r17 r18 r19 r20 v16 r21 r22 r23 v17 h2 g1 fn33 h3 g2 fn34 h4 g3 fn35)) hD hS hA [0, 2, 3, 4] rfl
            refine va_callv (va_runV (As := [.int 7, .int 0]) (rest := []) ⟨hx, hb, hml, hown, hts⟩ (k_X12_put l dC dI h0 h2 h3 h4 v0 h1 v1 x30 x31 x32 r0 r1 r2 r3 v3 v4 r4 r5 r6 r7 v5 r8 r9 v6 v7 r10 r11 v8 v9 r12 v10 v11 r13 v12 w13 r14 v14 v15 r15 r16 r17 r18 r19 r20 v16 r21 r22 r23 v17 g1 fn33 g2 fn34 g3 fn35 7 0 ⟨i_v1a, i_v1b⟩ ⟨i_v3a, i_v3b⟩ ⟨i_v4a, i_v4b⟩ ⟨i_v5a, i_v5b⟩ ⟨i_v6a, i_v6b⟩ ⟨i_v7a, i_v7b⟩ ⟨i_v8a, i_v8b⟩ ⟨i_v12a, i_v12b⟩ ⟨i_v16a, i_v16b⟩ ⟨i_v17a, i_v17b⟩ (by constructor <;> omega) H.size) (cwV 2 hts g_X12_compare_3_5 rfl rfl rfl (by decide +kernel) ⟨Nat.le_of_ble_eq_true rfl, Nat.le_of_ble_eq_true rfl⟩) (pv_PV12 hPc hKc hDc (q0 := 0) rfl) rfl rfl hl.1 rfl (lv_room (Nat.le_of_ble_eq_true rfl)) dX12_compare_69 ⟨Nat.le_of_ble_eq_true rfl, Nat.le_of_ble_eq_true rfl⟩) hS (fun q _ h => hFc q h) hFc (fun u t H1 locs ht hvm hwra42 hB hz1 hk1 hS => ?_)
            have hkra42_0 : ((0 : Int32)).toInt = 0 := by decide
            have hkra42_1 : ((7 : Int32)).toInt = 7 := by decide
            obtain ⟨fn43, fn44, fn45, pt0_ra42, hP1, hK1, hD1⟩ := hB
            rw [ht] at hP1
            obtain ⟨hP2, hD2⟩ := va_join (wr := (wd_d0032b31 h1 g0 f18)) (w1 := (wd_c62683a8 h0 v0 h1 v1 x30 x31 x32 h2 h3 h4 r0 r1 r2 r3 v3 v4 r4 r5 r6 r7 v5 r8 r9 v6 v7 r10 r11 v8 v9 r12 v10 v11 r13 v12 w13 r14 v14 v15 r15 r16 r17 r18 r19 r20 v16 r21 r22 r23 v17 h2 g1 fn43 h3 g2 fn44 h4 g3 fn45)) hP hD [0, 2, 3, 4] [1] rfl rfl (by decide) (by decide) hk1 hFc hP1 hD1
            clear hP hD hPc hDc hKc hFc hP1 hK1 hD1 hk1 hz1
            generalize H1 = H at hP2 hS ⊢
            have hP := hP2.sub (ws' := (wd_d906eaf1 h0 v0 h1 v1 x30 x31 x32 h2 h3 h4 r0 r1 r2 r3 v3 v4 r4 r5 r6 r7 v5 r8 r9 v6 v7 r10 r11 v8 v9 r12 v10 v11 r13 v12 w13 r14 v14 v15 r15 r16 r17 r18 r19 r20 v16 r21 r22 r23 v17 h1 g0 f18 h2 g1 fn43 h3 g2 fn44 h4 g3 fn45)) [1, 0, 2, 3, 4] rfl
            have hD := hD2.sub (ws' := (wd_d906eaf1 h0 v0 h1 v1 x30 x31 x32 h2 h3 h4 r0 r1 r2 r3 v3 v4 r4 r5 r6 r7 v5 r8 r9 v6 v7 r10 r11 v8 v9 r12 v10 v11 r13 v12 w13 r14 v14 v15 r15 r16 r17 r18 r19 r20 v16 r21 r22 r23 v17 h1 g0 f18 h2 g1 fn43 h3 g2 fn44 h4 g3 fn45)) [1, 0, 2, 3, 4] (by decide) rfl
            clear hP2 hD2
            have hgF := hgF.put pt0_ra42
            have hxl := hgF.1
            have hxs := pt0_ra42.step
            subst hQ
            have hP9 := hP.sub (ws' := (wd_d906eaf1 h0 v0 h1 v1 x30 x31 x32 h2 h3 h4 r0 r1 r2 r3 v3 v4 r4 r5 r6 r7 v5 r8 r9 v6 v7 r10 r11 v8 v9 r12 v10 v11 r13 v12 w13 r14 v14 v15 r15 r16 r17 r18 r19 r20 v16 r21 r22 r23 v17 h1 g0 f18 h2 g1 fn43 h3 g2 fn44 h4 g3 fn45)) [0, 1, 2, 3, 4] rfl
            have hD9 := hD.sub (ws' := (wd_d906eaf1 h0 v0 h1 v1 x30 x31 x32 h2 h3 h4 r0 r1 r2 r3 v3 v4 r4 r5 r6 r7 v5 r8 r9 v6 v7 r10 r11 v8 v9 r12 v10 v11 r13 v12 w13 r14 v14 v15 r15 r16 r17 r18 r19 r20 v16 r21 r22 r23 v17 h1 g0 f18 h2 g1 fn43 h3 g2 fn44 h4 g3 fn45)) [0, 1, 2, 3, 4] (by decide) rfl
            have hK9 := hK.sub (tys' := []) [] rfl
            exact W.vret hx hb hr (fun t ht hW => ⟨⟨(), rfl, trivial, Or.inr (⟨x30, x31, x32, fn43, fn44, fn45, oa_x30, ob_x30, oa_x31, ob_x31, by constructor <;> omega, by exact hgF, by first | (apply pg_cmp.ok <;> first | assumption | omega) | (apply pg_cmp.no <;> first | assumption | omega), by rw [ht]; exact hP9, va_K.moved hW.alike hK9, hD9⟩)⟩, hS.F ht⟩) hS.2.2 dX12_compare_72
        · skip
          have fc36 : ra1.toInt = 61 := congrArg Int32.toInt c36
          refine lv_bipush (v := 6) hx hb dX12_compare_50 (by decide) ?_
          refine lv_goto (tgt := 68) hx hb dX12_compare_52 (by decide) ?_
          refine lv_iconst (v := 0) hx hb dX12_compare_68 (by decide) ?_
          have hPc := hP.sub (ws' := (wd_c62683a8 h0 v0 h1 v1 x30 x31 x32 h2 h3 h4 r0 r1 r2 r3 v3 v4 r4 r5 r6 r7 v5 r8 r9 v6 v7 r10 r11 v8 v9 r12 v10 v11 r13 v12 w13 r14 v14 v15 r15 r16 r17 r18 r19 r20 v16 r21 r22 r23 v17 h2 g1 fn33 h3 g2 fn34 h4 g3 fn35)) [0, 2, 3, 4] rfl
          have hDc := hD.sub (ws' := (wd_c62683a8 h0 v0 h1 v1 x30 x31 x32 h2 h3 h4 r0 r1 r2 r3 v3 v4 r4 r5 r6 r7 v5 r8 r9 v6 v7 r10 r11 v8 v9 r12 v10 v11 r13 v12 w13 r14 v14 v15 r15 r16 r17 r18 r19 r20 v16 r21 r22 r23 v17 h2 g1 fn33 h3 g2 fn34 h4 g3 fn35)) [0, 2, 3, 4] (by decide) rfl
          have hKc := hK.sub (tys' := [(g1, .int), (g2, .int), (g3, .int)]) [1, 2, 3] rfl
          have hFc := va_free (wc := (wd_c62683a8 h0 v0 h1 v1 x30 x31 x32 h2 h3 h4 r0 r1 r2 r3 v3 v4 r4 r5 r6 r7 v5 r8 r9 v6 v7 r10 r11 v8 v9 r12 v10 v11 r13 v12 w13 r14 v14 v15 r15 r16 r17 r18 r19 r20 v16 r21 r22 r23 v17 h2 g1 fn33 h3 g2 fn34 h4 g3 fn35)) hD hS hA [0, 2, 3, 4] rfl
          refine va_callv (va_runV (As := [.int 6, .int 0]) (rest := []) ⟨hx, hb, hml, hown, hts⟩ (k_X12_put l dC dI h0 h2 h3 h4 v0 h1 v1 x30 x31 x32 r0 r1 r2 r3 v3 v4 r4 r5 r6 r7 v5 r8 r9 v6 v7 r10 r11 v8 v9 r12 v10 v11 r13 v12 w13 r14 v14 v15 r15 r16 r17 r18 r19 r20 v16 r21 r22 r23 v17 g1 fn33 g2 fn34 g3 fn35 6 0 ⟨i_v1a, i_v1b⟩ ⟨i_v3a, i_v3b⟩ ⟨i_v4a, i_v4b⟩ ⟨i_v5a, i_v5b⟩ ⟨i_v6a, i_v6b⟩ ⟨i_v7a, i_v7b⟩ ⟨i_v8a, i_v8b⟩ ⟨i_v12a, i_v12b⟩ ⟨i_v16a, i_v16b⟩ ⟨i_v17a, i_v17b⟩ (by constructor <;> omega) H.size) (cwV 2 hts g_X12_compare_3_5 rfl rfl rfl (by decide +kernel) ⟨Nat.le_of_ble_eq_true rfl, Nat.le_of_ble_eq_true rfl⟩) (pv_PV12 hPc hKc hDc (q0 := 0) rfl) rfl rfl hl.1 rfl (lv_room (Nat.le_of_ble_eq_true rfl)) dX12_compare_69 ⟨Nat.le_of_ble_eq_true rfl, Nat.le_of_ble_eq_true rfl⟩) hS (fun q _ h => hFc q h) hFc (fun u t H1 locs ht hvm hwra46 hB hz1 hk1 hS => ?_)
          have hkra46_0 : ((0 : Int32)).toInt = 0 := by decide
          have hkra46_1 : ((6 : Int32)).toInt = 6 := by decide
          obtain ⟨fn47, fn48, fn49, pt0_ra46, hP1, hK1, hD1⟩ := hB
          rw [ht] at hP1
          obtain ⟨hP2, hD2⟩ := va_join (wr := (wd_d0032b31 h1 g0 f18)) (w1 := (wd_c62683a8 h0 v0 h1 v1 x30 x31 x32 h2 h3 h4 r0 r1 r2 r3 v3 v4 r4 r5 r6 r7 v5 r8 r9 v6 v7 r10 r11 v8 v9 r12 v10 v11 r13 v12 w13 r14 v14 v15 r15 r16 r17 r18 r19 r20 v16 r21 r22 r23 v17 h2 g1 fn47 h3 g2 fn48 h4 g3 fn49)) hP hD [0, 2, 3, 4] [1] rfl rfl (by decide) (by decide) hk1 hFc hP1 hD1
          clear hP hD hPc hDc hKc hFc hP1 hK1 hD1 hk1 hz1
          generalize H1 = H at hP2 hS ⊢
          have hP := hP2.sub (ws' := (wd_d906eaf1 h0 v0 h1 v1 x30 x31 x32 h2 h3 h4 r0 r1 r2 r3 v3 v4 r4 r5 r6 r7 v5 r8 r9 v6 v7 r10 r11 v8 v9 r12 v10 v11 r13 v12 w13 r14 v14 v15 r15 r16 r17 r18 r19 r20 v16 r21 r22 r23 v17 h1 g0 f18 h2 g1 fn47 h3 g2 fn48 h4 g3 fn49)) [1, 0, 2, 3, 4] rfl
          have hD := hD2.sub (ws' := (wd_d906eaf1 h0 v0 h1 v1 x30 x31 x32 h2 h3 h4 r0 r1 r2 r3 v3 v4 r4 r5 r6 r7 v5 r8 r9 v6 v7 r10 r11 v8 v9 r12 v10 v11 r13 v12 w13 r14 v14 v15 r15 r16 r17 r18 r19 r20 v16 r21 r22 r23 v17 h1 g0 f18 h2 g1 fn47 h3 g2 fn48 h4 g3 fn49)) [1, 0, 2, 3, 4] (by decide) rfl
          clear hP2 hD2
          have hgF := hgF.put pt0_ra46
          have hxl := hgF.1
          have hxs := pt0_ra46.step
          subst hQ
          have hP9 := hP.sub (ws' := (wd_d906eaf1 h0 v0 h1 v1 x30 x31 x32 h2 h3 h4 r0 r1 r2 r3 v3 v4 r4 r5 r6 r7 v5 r8 r9 v6 v7 r10 r11 v8 v9 r12 v10 v11 r13 v12 w13 r14 v14 v15 r15 r16 r17 r18 r19 r20 v16 r21 r22 r23 v17 h1 g0 f18 h2 g1 fn47 h3 g2 fn48 h4 g3 fn49)) [0, 1, 2, 3, 4] rfl
          have hD9 := hD.sub (ws' := (wd_d906eaf1 h0 v0 h1 v1 x30 x31 x32 h2 h3 h4 r0 r1 r2 r3 v3 v4 r4 r5 r6 r7 v5 r8 r9 v6 v7 r10 r11 v8 v9 r12 v10 v11 r13 v12 w13 r14 v14 v15 r15 r16 r17 r18 r19 r20 v16 r21 r22 r23 v17 h1 g0 f18 h2 g1 fn47 h3 g2 fn48 h4 g3 fn49)) [0, 1, 2, 3, 4] (by decide) rfl
          have hK9 := hK.sub (tys' := []) [] rfl
          exact W.vret hx hb hr (fun t ht hW => ⟨⟨(), rfl, trivial, Or.inr (⟨x30, x31, x32, fn47, fn48, fn49, oa_x30, ob_x30, oa_x31, ob_x31, by constructor <;> omega, by exact hgF, by first | (apply pg_cmp.ok <;> first | assumption | omega) | (apply pg_cmp.no <;> first | assumption | omega), by rw [ht]; exact hP9, va_K.moved hW.alike hK9, hD9⟩)⟩, hS.F ht⟩) hS.2.2 dX12_compare_72
    · skip
      have fc9 : ra8.toInt = 0 := congrArg Int32.toInt c9
      refine lv_aload_n hx hb dX12_compare_24 rfl (lv_at hl 1 rfl) ?_
      have hPc := hP.sub (ws' := (wd_171f232f h0 v0 h1 v1 x7 (-1) 3 h2 h3 h4 r0 r1 r2 r3 v3 v4 r4 r5 r6 r7 v5 r8 r9 v6 v7 r10 r11 v8 v9 r12 v10 v11 r13 v12 w13 r14 v14 v15 r15 r16 r17 r18 r19 r20 v16 r21 r22 r23 v17)) [0] rfl
      have hDc := hD.sub (ws' := (wd_171f232f h0 v0 h1 v1 x7 (-1) 3 h2 h3 h4 r0 r1 r2 r3 v3 v4 r4 r5 r6 r7 v5 r8 r9 v6 v7 r10 r11 v8 v9 r12 v10 v11 r13 v12 w13 r14 v14 v15 r15 r16 r17 r18 r19 r20 v16 r21 r22 r23 v17)) [0] (by decide) rfl
      have hKc := hK.sub (tys' := []) [] rfl
      have hFc := va_free (wc := (wd_171f232f h0 v0 h1 v1 x7 (-1) 3 h2 h3 h4 r0 r1 r2 r3 v3 v4 r4 r5 r6 r7 v5 r8 r9 v6 v7 r10 r11 v8 v9 r12 v10 v11 r13 v12 w13 r14 v14 v15 r15 r16 r17 r18 r19 r20 v16 r21 r22 r23 v17)) hD hS hA [0] rfl
      refine va_callv (va_runV (As := []) (rest := []) ⟨hx, hb, hml, hown, hts⟩ (k_X12_bad l dC dI h0 v0 h1 v1 x7 3 h2 h3 h4 r0 r1 r2 r3 v3 v4 r4 r5 r6 r7 v5 r8 r9 v6 v7 r10 r11 v8 v9 r12 v10 v11 r13 v12 w13 r14 v14 v15 r15 r16 r17 r18 r19 r20 v16 r21 r22 r23 v17 ⟨i_v1a, i_v1b⟩ ⟨oa_x7, by first | omega | decide⟩ ⟨i_v3a, i_v3b⟩ ⟨i_v4a, i_v4b⟩ ⟨i_v5a, i_v5b⟩ ⟨i_v6a, i_v6b⟩ ⟨i_v7a, i_v7b⟩ ⟨i_v8a, i_v8b⟩ ⟨i_v12a, i_v12b⟩ ⟨i_v16a, i_v16b⟩ ⟨i_v17a, i_v17b⟩ H.size) (cwV 0 hts g_X12_compare_3_2 rfl rfl rfl (by decide +kernel) ⟨Nat.le_of_ble_eq_true rfl, Nat.le_of_ble_eq_true rfl⟩) (pv_PV12 hPc hKc hDc (q0 := 0) rfl) rfl rfl hl.1 rfl (lv_room (Nat.le_of_ble_eq_true rfl)) dX12_compare_25 ⟨Nat.le_of_ble_eq_true rfl, Nat.le_of_ble_eq_true rfl⟩) hS (fun q _ h => hFc q h) hFc (fun u t H1 locs ht hvm hwra50 hB hz1 hk1 hS => ?_)
      have hkra50_0 : ((3 : Int32)).toInt = 3 := by decide
      obtain ⟨x51, oa_x51, ob_x51, pt0_ra50, hP1, hK1, hD1⟩ := hB
      rw [ht] at hP1
      obtain ⟨hP2, hD2⟩ := va_join (wr := (wd_bfe486e6 h1 g0 f18 h2 g1 f19 h3 g2 f20 h4 g3 f21)) (w1 := (wd_171f232f h0 v0 h1 v1 x7 x51 3 h2 h3 h4 r0 r1 r2 r3 v3 v4 r4 r5 r6 r7 v5 r8 r9 v6 v7 r10 r11 v8 v9 r12 v10 v11 r13 v12 w13 r14 v14 v15 r15 r16 r17 r18 r19 r20 v16 r21 r22 r23 v17)) hP hD [0] [1, 2, 3, 4] rfl rfl (by decide) (by decide) hk1 hFc hP1 hD1
      clear hP hD hPc hDc hKc hFc hP1 hK1 hD1 hk1 hz1
      generalize H1 = H at hP2 hS ⊢
      have hP := hP2.sub (ws' := (wd_d906eaf1 h0 v0 h1 v1 x7 x51 3 h2 h3 h4 r0 r1 r2 r3 v3 v4 r4 r5 r6 r7 v5 r8 r9 v6 v7 r10 r11 v8 v9 r12 v10 v11 r13 v12 w13 r14 v14 v15 r15 r16 r17 r18 r19 r20 v16 r21 r22 r23 v17 h1 g0 f18 h2 g1 f19 h3 g2 f20 h4 g3 f21)) [4, 0, 1, 2, 3] rfl
      have hD := hD2.sub (ws' := (wd_d906eaf1 h0 v0 h1 v1 x7 x51 3 h2 h3 h4 r0 r1 r2 r3 v3 v4 r4 r5 r6 r7 v5 r8 r9 v6 v7 r10 r11 v8 v9 r12 v10 v11 r13 v12 w13 r14 v14 v15 r15 r16 r17 r18 r19 r20 v16 r21 r22 r23 v17 h1 g0 f18 h2 g1 f19 h3 g2 f20 h4 g3 f21)) [4, 0, 1, 2, 3] (by decide) rfl
      clear hP2 hD2
      subst hQ
      have hP9 := hP.sub (ws' := (wd_d906eaf1 h0 v0 h1 v1 x7 x51 3 h2 h3 h4 r0 r1 r2 r3 v3 v4 r4 r5 r6 r7 v5 r8 r9 v6 v7 r10 r11 v8 v9 r12 v10 v11 r13 v12 w13 r14 v14 v15 r15 r16 r17 r18 r19 r20 v16 r21 r22 r23 v17 h1 g0 f18 h2 g1 f19 h3 g2 f20 h4 g3 f21)) [0, 1, 2, 3, 4] rfl
      have hD9 := hD.sub (ws' := (wd_d906eaf1 h0 v0 h1 v1 x7 x51 3 h2 h3 h4 r0 r1 r2 r3 v3 v4 r4 r5 r6 r7 v5 r8 r9 v6 v7 r10 r11 v8 v9 r12 v10 v11 r13 v12 w13 r14 v14 v15 r15 r16 r17 r18 r19 r20 v16 r21 r22 r23 v17 h1 g0 f18 h2 g1 f19 h3 g2 f20 h4 g3 f21)) [0, 1, 2, 3, 4] (by decide) rfl
      have hK9 := hK.sub (tys' := []) [] rfl
      exact W.vret hx hb hr (fun t ht hW => ⟨⟨(), rfl, trivial, Or.inr (⟨x7, x51, 3, f19, f20, f21, oa_x7, by first | omega | decide, oa_x51, ob_x51, by constructor <;> omega, by exact hgF, by first | (apply pg_cmp.ok <;> first | assumption | omega) | (apply pg_cmp.no <;> first | assumption | omega), by rw [ht]; exact hP9, va_K.moved hW.alike hK9, hD9⟩)⟩, hS.F ht⟩) hS.2.2 dX12_compare_28
def q_X12_closes_7 : List Cond := .code yX12_closes cX12_closes 2 none :: (([.fieldLink RX12 119 "LeftArgumentsModel" "wrong" "I", .code yX12_look cX12_look 1 (some .int), .code yX12_here cX12_here 1 (some .int), .fieldLink RX12 112 "LeftArgumentsModel" "at" "I", .fieldLink RX12 109 "LeftArgumentsModel" "size" "I", .fieldLink RX12 9 "LeftArgumentsModel" "tape" "[I", .initialized RX12, .instanceMethod yX12_here, .selects RX12 yX12_here yX12_here, .methodLink RX12 115 yX12_here, .instanceMethod yX12_look, .selects RX12 yX12_look yX12_look, .methodLink RX12 131 yX12_look, .code yX12_bad cX12_bad 1 none, .instanceMethod yX12_bad, .selects RX12 yX12_bad yX12_bad, .methodLink RX12 128 yX12_bad, .fieldLink RX12 125 "LeftArgumentsModel" "deep" "I"] : List Cond) ++ wsX120)
set_option maxRecDepth 20000 in
theorem g_X12_closes_7_0 : GoodIn q_X12_closes_7 (wsV RX12 131 RX12 yX12_look q_X12_look) := goodIn_app (goodIn_r _ [13, 11, 12, 7] rfl (by decide +kernel)) (goodIn_ca (goodIn_r (.code yX12_look cX12_look 1 (some .int) :: [.code yX12_here cX12_here 1 (some .int), .fieldLink RX12 112 "LeftArgumentsModel" "at" "I", .fieldLink RX12 109 "LeftArgumentsModel" "size" "I", .fieldLink RX12 9 "LeftArgumentsModel" "tape" "[I", .initialized RX12, .instanceMethod yX12_here, .selects RX12 yX12_here yX12_here, .methodLink RX12 115 yX12_here]) [2, 3, 4, 5, 6, 7, 8, 9, 10] rfl (by decide +kernel)) (goodIn_sub (fun _ h => List.mem_cons_of_mem _ (List.mem_append_right _ h)) gwX12))
set_option maxRecDepth 20000 in
theorem g_X12_closes_7_1 : GoodIn q_X12_closes_7 (wsV RX12 128 RX12 yX12_bad q_X12_bad) := goodIn_app (goodIn_r _ [17, 15, 16, 7] rfl (by decide +kernel)) (goodIn_ca (goodIn_r (.code yX12_bad cX12_bad 1 none :: [.fieldLink RX12 119 "LeftArgumentsModel" "wrong" "I", .fieldLink RX12 112 "LeftArgumentsModel" "at" "I"]) [14, 1, 4] rfl (by decide +kernel)) (goodIn_sub (fun _ h => List.mem_cons_of_mem _ (List.mem_append_right _ h)) gwX12))
set_option maxHeartbeats 4000000 in
set_option maxRecDepth 100000 in
theorem k_X12_closes_7 (l : Launch) (dC : Nat → ClassId) (dI : Nat → Nat → Nat) (h0 : Nat) (h1 : Nat) (v0 : Int32) (v1 : Int32) (v2 : Int32) (r0 : Nat) (r1 : Nat) (r2 : Nat) (r3 : Nat) (r4 : Nat) (r5 : Nat) (r6 : Nat) (v3 : Int32) (v4 : Int32) (r7 : Nat) (r8 : Nat) (r9 : Nat) (r10 : Nat) (v5 : Int32) (r11 : Nat) (r12 : Nat) (v6 : Int32) (v7 : Int32) (r13 : Nat) (r14 : Nat) (v8 : Int32) (v9 : Int32) (r15 : Nat) (v10 : Int32) (v11 : Int32) (r16 : Nat) (v12 : Int32) (w13 : Int64) (r17 : Nat) (v14 : Int32) (v15 : Int32) (r18 : Nat) (r19 : Nat) (r20 : Nat) (r21 : Nat) (r22 : Nat) (r23 : Nat) (v16 : Int32) (r24 : Nat) (r25 : Nat) (r26 : Nat) (v17 : Int32) (g0 : ClassId) (f18 : Nat → Int32) (i_v1 : 0 ≤ v1.toInt ∧ v1.toInt ≤ 240) (i_v2 : 0 ≤ v2.toInt ∧ v2.toInt ≤ 240) (i_v3 : 0 ≤ v3.toInt ∧ v3.toInt ≤ 4) (i_v4 : 0 ≤ v4.toInt ∧ v4.toInt ≤ 4) (i_v5 : 0 ≤ v5.toInt ∧ v5.toInt ≤ 8) (i_v6 : 0 ≤ v6.toInt ∧ v6.toInt ≤ 8) (i_v7 : 0 ≤ v7.toInt ∧ v7.toInt ≤ 1) (i_v8 : -1 ≤ v8.toInt ∧ v8.toInt ≤ 3) (i_v12 : 0 ≤ v12.toInt ∧ v12.toInt ≤ 40) (i_v16 : 0 ≤ v16.toInt ∧ v16.toInt ≤ 10) (i_v17 : 0 ≤ v17.toInt ∧ v17.toInt ≤ 1) (ia_f18 : (∀ j, 0 ≤ (f18 j).toInt ∧ (f18 j).toInt ≤ 255)) (sz : Nat) : Met l yX12_closes q_X12_closes_7 ({ frames := 2, cells := 0, slots := 0, locals := 40 }) (va_Pc [.ref h0, .int 41] (fun U => U.heap.size = sz ∧ va_P (dC, dI) vwCl (wd_f4cd022e h0 v0 h1 v1 v2 (-1) 4 r0 r1 r2 r3 r4 r5 r6 v3 v4 r7 r8 r9 r10 v5 r11 r12 v6 v7 r13 r14 v8 v9 r15 v10 v11 r16 v12 w13 r17 v14 v15 r18 r19 r20 r21 r22 r23 v16 r24 r25 r26 v17 h1 g0 f18) U.heap ∧ va_K (dC, dI) vwCl [(g0, .int)] U ∧ va_D (fun _ => True) (wd_f4cd022e h0 v0 h1 v1 v2 (-1) 4 r0 r1 r2 r3 r4 r5 r6 v3 v4 r7 r8 r9 r10 v5 r11 r12 v6 v7 r13 r14 v8 v9 r15 v10 v11 r16 v12 w13 r17 v14 v15 r18 r19 r20 r21 r22 r23 v16 r24 r25 r26 v17 h1 g0 f18))) (va_Qv (fun (_ : Unit) => True) (fun (_ : Unit) (t : State) => (∃ (o_h0_3 : Int32), 1 ≤ o_h0_3.toInt ∧ o_h0_3.toInt ≤ 240 ∧ (v2.toInt + 1 ≤ o_h0_3.toInt) ∧ (pg_take f18 v1.toInt 41 v2.toInt = (true, o_h0_3.toInt)) ∧ va_P (dC, dI) vwCl (wd_f4cd022e h0 v0 h1 v1 o_h0_3 (-1) 3 r0 r1 r2 r3 r4 r5 r6 v3 v4 r7 r8 r9 r10 v5 r11 r12 v6 v7 r13 r14 v8 v9 r15 v10 v11 r16 v12 w13 r17 v14 v15 r18 r19 r20 r21 r22 r23 v16 r24 r25 r26 v17 h1 g0 f18) t.heap ∧ va_K (dC, dI) vwCl [] t ∧ va_D (va_A (wd_f4cd022e h0 v0 h1 v1 v2 (-1) 4 r0 r1 r2 r3 r4 r5 r6 v3 v4 r7 r8 r9 r10 v5 r11 r12 v6 v7 r13 r14 v8 v9 r15 v10 v11 r16 v12 w13 r17 v14 v15 r18 r19 r20 r21 r22 r23 v16 r24 r25 r26 v17 h1 g0 f18) sz) (wd_f4cd022e h0 v0 h1 v1 o_h0_3 (-1) 3 r0 r1 r2 r3 r4 r5 r6 v3 v4 r7 r8 r9 r10 v5 r11 r12 v6 v7 r13 r14 v8 v9 r15 v10 v11 r16 v12 w13 r17 v14 v15 r18 r19 r20 r21 r22 r23 v16 r24 r25 r26 v17 h1 g0 f18)) ∨ (∃ (o_h0_3 : Int32) (o_h0_4 : Int32), 1 ≤ o_h0_3.toInt ∧ o_h0_3.toInt ≤ 241 ∧ 0 ≤ o_h0_4.toInt ∧ o_h0_4.toInt ≤ 240 ∧ (v2.toInt + 1 ≤ o_h0_3.toInt) ∧ (pg_take f18 v1.toInt 41 v2.toInt = (false, o_h0_4.toInt)) ∧ va_P (dC, dI) vwCl (wd_f4cd022e h0 v0 h1 v1 o_h0_3 o_h0_4 3 r0 r1 r2 r3 r4 r5 r6 v3 v4 r7 r8 r9 r10 v5 r11 r12 v6 v7 r13 r14 v8 v9 r15 v10 v11 r16 v12 w13 r17 v14 v15 r18 r19 r20 r21 r22 r23 v16 r24 r25 r26 v17 h1 g0 f18) t.heap ∧ va_K (dC, dI) vwCl [] t ∧ va_D (va_A (wd_f4cd022e h0 v0 h1 v1 v2 (-1) 4 r0 r1 r2 r3 r4 r5 r6 v3 v4 r7 r8 r9 r10 v5 r11 r12 v6 v7 r13 r14 v8 v9 r15 v10 v11 r16 v12 w13 r17 v14 v15 r18 r19 r20 r21 r22 r23 v16 r24 r25 r26 v17 h1 g0 f18) sz) (wd_f4cd022e h0 v0 h1 v1 o_h0_3 o_h0_4 3 r0 r1 r2 r3 r4 r5 r6 v3 v4 r7 r8 r9 r10 v5 r11 r12 v6 v7 r13 r14 v8 v9 r15 v10 v11 r16 v12 w13 r17 v14 v15 r18 r19 r20 r21 r22 r23 v16 r24 r25 r26 v17 h1 g0 f18))) (va_A (wd_f4cd022e h0 v0 h1 v1 v2 (-1) 4 r0 r1 r2 r3 r4 r5 r6 v3 v4 r7 r8 r9 r10 v5 r11 r12 v6 v7 r13 r14 v8 v9 r15 v10 v11 r16 v12 w13 r17 v14 v15 r18 r19 r20 r21 r22 r23 v16 r24 r25 r26 v17 h1 g0 f18) sz)) 0 0 (va_A (wd_f4cd022e h0 v0 h1 v1 v2 (-1) 4 r0 r1 r2 r3 r4 r5 r6 v3 v4 r7 r8 r9 r10 v5 r11 r12 v6 v7 r13 r14 v8 v9 r15 v10 v11 r16 v12 w13 r17 v14 v15 r18 r19 r20 r21 r22 r23 v16 r24 r25 r26 v17 h1 g0 f18) sz) := by
  refine Met.ofW (cc := cX12_closes) (maxL := 2) (ret := none) (by decide) rfl ?_
  intro p e s m args below meth c s₁ B hml hv
  obtain ⟨i_v1a, i_v1b⟩ := i_v1
  obtain ⟨i_v2a, i_v2b⟩ := i_v2
  obtain ⟨i_v3a, i_v3b⟩ := i_v3
  obtain ⟨i_v4a, i_v4b⟩ := i_v4
  obtain ⟨i_v5a, i_v5b⟩ := i_v5
  obtain ⟨i_v6a, i_v6b⟩ := i_v6
  obtain ⟨i_v7a, i_v7b⟩ := i_v7
  obtain ⟨i_v8a, i_v8b⟩ := i_v8
  obtain ⟨i_v12a, i_v12b⟩ := i_v12
  obtain ⟨i_v16a, i_v16b⟩ := i_v16
  obtain ⟨i_v17a, i_v17b⟩ := i_v17
  obtain ⟨rfl, hsz, hP, hK, hD0⟩ := hv
  have hx := B.exec
  have hb := B.bytes
  have hr := B.returns
  have hts := atoms_spec (ws := q_X12_closes_7) B.pre
  have hown : s.vm.findClass RX12 = some m.cls := findClass_of_methodNamed B.named
  have hlocks := B.notSynchronized
  subst hsz
  have hD := hD0.self (sz := s.heap.size)
  generalize hAe : va_A (wd_f4cd022e h0 v0 h1 v1 v2 (-1) 4 r0 r1 r2 r3 r4 r5 r6 v3 v4 r7 r8 r9 r10 v5 r11 r12 v6 v7 r13 r14 v8 v9 r15 v10 v11 r16 v12 w13 r17 v14 v15 r18 r19 r20 r21 r22 r23 v16 r24 r25 r26 v17 h1 g0 f18) s.heap.size = A at hD ⊢
  have hA : ∀ q : Nat, s.heap.size ≤ q → A q := fun q h => by rw [← hAe]; exact Or.inr h
  have hS : va_S A s.heap s.heap [] := va_S.rf
  generalize hQ : (MQ below _ _ s 0 0 A) = Q
  have hl := lv_entry ([.ref h0, .int 41]) (n := 2) (Nat.le_of_ble_eq_true rfl)
  rw [lg_entry_eq]
  generalize (lg_sl ([.ref h0, .int 41]) ++ List.replicate (2 - (lg_sl ([.ref h0, .int 41])).length) Slot.unset).toArray = ls at hl ⊢
  have hl : lv_has ls 2 [(0, .ref h0), (1, .int 41)] := hl
  obtain ⟨H, hH⟩ : ∃ H : Heap, H = s.heap := ⟨_, rfl⟩
  obtain ⟨locs, hlocs⟩ : ∃ y : List Loc, y = [] := ⟨_, rfl⟩
  have hS : va_S A s.heap H locs := by rw [hH, hlocs]; exact va_S.rf
  have hP : va_P (dC, dI) vwCl (wd_f4cd022e h0 v0 h1 v1 v2 (-1) 4 r0 r1 r2 r3 r4 r5 r6 v3 v4 r7 r8 r9 r10 v5 r11 r12 v6 v7 r13 r14 v8 v9 r15 v10 v11 r16 v12 w13 r17 v14 v15 r18 r19 r20 r21 r22 r23 v16 r24 r25 r26 v17 h1 g0 f18) H := by rw [hH]; exact hP
  rw [← hH, ← hlocs]
  refine lv_aload_n hx hb dX12_closes_0 rfl (lv_at hl 0 rfl) ?_
  refine va_get (D := (dC, dI)) (ci := 12) (v := .int (-1)) (C := RX12) (T := TX12) (N := 48) hx hb hts (fun _ h => List.mem_cons_of_mem _ (List.mem_append_right _ h)) hown hK hP 0 rfl rfl 4 (by decide) (hts (.fieldLink RX12 119 "LeftArgumentsModel" "wrong" "I") (List.mem_cons_of_mem _ (List.mem_append_left _ (List.mem_of_getElem? (i := 0) rfl)))) (fun _ h9 => h9) rfl dX12_closes_1 ?_
  refine lv_iconst (v := (-1)) hx hb dX12_closes_4 (by decide) ?_
  refine lv_icmp_ne (tgt := 20) hx hb dX12_closes_5 (by decide) (fun c => absurd (by decide) c) (fun _ => ?_)
  refine lv_aload_n hx hb dX12_closes_8 rfl (lv_at hl 0 rfl) ?_
  have hPc := hP.sub (ws' := (wd_f4cd022e h0 v0 h1 v1 v2 (-1) 4 r0 r1 r2 r3 r4 r5 r6 v3 v4 r7 r8 r9 r10 v5 r11 r12 v6 v7 r13 r14 v8 v9 r15 v10 v11 r16 v12 w13 r17 v14 v15 r18 r19 r20 r21 r22 r23 v16 r24 r25 r26 v17 h1 g0 f18)) [0, 1] rfl
  have hDc := hD.sub (ws' := (wd_f4cd022e h0 v0 h1 v1 v2 (-1) 4 r0 r1 r2 r3 r4 r5 r6 v3 v4 r7 r8 r9 r10 v5 r11 r12 v6 v7 r13 r14 v8 v9 r15 v10 v11 r16 v12 w13 r17 v14 v15 r18 r19 r20 r21 r22 r23 v16 r24 r25 r26 v17 h1 g0 f18)) [0, 1] (by decide) rfl
  have hKc := hK.sub (tys' := [(g0, .int)]) [0] rfl
  have hFc := va_free (wc := (wd_f4cd022e h0 v0 h1 v1 v2 (-1) 4 r0 r1 r2 r3 r4 r5 r6 v3 v4 r7 r8 r9 r10 v5 r11 r12 v6 v7 r13 r14 v8 v9 r15 v10 v11 r16 v12 w13 r17 v14 v15 r18 r19 r20 r21 r22 r23 v16 r24 r25 r26 v17 h1 g0 f18)) hD hS hA [0, 1] rfl
  refine va_calli (va_runV (As := []) (rest := []) ⟨hx, hb, hml, hown, hts⟩ (k_X12_look l dC dI h0 h1 v0 v1 v2 ((-1)) 4 r0 r1 r2 r3 r4 r5 r6 v3 v4 r7 r8 r9 r10 v5 r11 r12 v6 v7 r13 r14 v8 v9 r15 v10 v11 r16 v12 w13 r17 v14 v15 r18 r19 r20 r21 r22 r23 v16 r24 r25 r26 v17 g0 f18 ⟨i_v1a, i_v1b⟩ ⟨i_v2a, i_v2b⟩ ⟨i_v3a, i_v3b⟩ ⟨i_v4a, i_v4b⟩ ⟨i_v5a, i_v5b⟩ ⟨i_v6a, i_v6b⟩ ⟨i_v7a, i_v7b⟩ ⟨i_v8a, i_v8b⟩ ⟨i_v12a, i_v12b⟩ ⟨i_v16a, i_v16b⟩ ⟨i_v17a, i_v17b⟩ ia_f18 H.size) (cwV 0 hts g_X12_closes_7_0 rfl rfl rfl (by decide +kernel) ⟨Nat.le_of_ble_eq_true rfl, Nat.le_of_ble_eq_true rfl⟩) (pv_PV12 hPc hKc hDc (q0 := 0) rfl) rfl rfl hl.1 rfl (lv_room (Nat.le_of_ble_eq_true rfl)) dX12_closes_9 ⟨Nat.le_of_ble_eq_true rfl, Nat.le_of_ble_eq_true rfl⟩) hS (fun q _ h => hFc q h) hFc (fun ra1 u t H1 locs ht hvm hwra1 hB hz1 hk1 hS => ?_)
  try rw [hwra1] at hB
  have hkra1_0 : (((-1) : Int32)).toInt = -1 := by decide
  have hkra1_1 : ((4 : Int32)).toInt = 4 := by decide
  rcases hB with hB | hB
  · skip
    obtain ⟨x2, oa_x2, ob_x2, pt0_ra1, pt1_ra1, pt2_ra1, pt3_ra1, pt4_ra1, pt5_ra1, pt6_ra1, hP1, hK1, hD1⟩ := hB
    rw [ht] at hP1
    obtain ⟨hP2, hD2⟩ := va_join (wr := []) (w1 := (wd_f4cd022e h0 v0 h1 v1 x2 (-1) 4 r0 r1 r2 r3 r4 r5 r6 v3 v4 r7 r8 r9 r10 v5 r11 r12 v6 v7 r13 r14 v8 v9 r15 v10 v11 r16 v12 w13 r17 v14 v15 r18 r19 r20 r21 r22 r23 v16 r24 r25 r26 v17 h1 g0 f18)) hP hD [0, 1] [] rfl rfl (by decide) (by decide) hk1 hFc hP1 hD1
    clear hP hD hPc hDc hKc hFc hP1 hK1 hD1 hk1 hz1
    generalize H1 = H at hP2 hS ⊢
    have hP : va_P (dC, dI) vwCl (wd_f4cd022e h0 v0 h1 v1 x2 (-1) 4 r0 r1 r2 r3 r4 r5 r6 v3 v4 r7 r8 r9 r10 v5 r11 r12 v6 v7 r13 r14 v8 v9 r15 v10 v11 r16 v12 w13 r17 v14 v15 r18 r19 r20 r21 r22 r23 v16 r24 r25 r26 v17 h1 g0 f18) H := hP2
    have hD : va_D A (wd_f4cd022e h0 v0 h1 v1 x2 (-1) 4 r0 r1 r2 r3 r4 r5 r6 v3 v4 r7 r8 r9 r10 v5 r11 r12 v6 v7 r13 r14 v8 v9 r15 v10 v11 r16 v12 w13 r17 v14 v15 r18 r19 r20 r21 r22 r23 v16 r24 r25 r26 v17 h1 g0 f18) := hD2
    clear hP2 hD2
    obtain rfl : ra1 = ((-1) : Int32) := pv_cs (by decide) pt0_ra1 pt1_ra1
    refine lv_iload_n hx hb dX12_closes_12 rfl (lv_at hl 1 rfl) ?_
    refine lv_icmp_eq (tgt := 20) hx hb dX12_closes_13 (by decide) (fun c => absurd c (by decide)) (fun _ => ?_)
    refine lv_aload_n hx hb dX12_closes_16 rfl (lv_at hl 0 rfl) ?_
    have hPc := hP.sub (ws' := (wd_171f232f h0 v0 h1 v1 x2 (-1) 4 r0 r1 r2 r3 r4 r5 r6 v3 v4 r7 r8 r9 r10 v5 r11 r12 v6 v7 r13 r14 v8 v9 r15 v10 v11 r16 v12 w13 r17 v14 v15 r18 r19 r20 r21 r22 r23 v16 r24 r25 r26 v17)) [0] rfl
    have hDc := hD.sub (ws' := (wd_171f232f h0 v0 h1 v1 x2 (-1) 4 r0 r1 r2 r3 r4 r5 r6 v3 v4 r7 r8 r9 r10 v5 r11 r12 v6 v7 r13 r14 v8 v9 r15 v10 v11 r16 v12 w13 r17 v14 v15 r18 r19 r20 r21 r22 r23 v16 r24 r25 r26 v17)) [0] (by decide) rfl
    have hKc := hK.sub (tys' := []) [] rfl
    have hFc := va_free (wc := (wd_171f232f h0 v0 h1 v1 x2 (-1) 4 r0 r1 r2 r3 r4 r5 r6 v3 v4 r7 r8 r9 r10 v5 r11 r12 v6 v7 r13 r14 v8 v9 r15 v10 v11 r16 v12 w13 r17 v14 v15 r18 r19 r20 r21 r22 r23 v16 r24 r25 r26 v17)) hD hS hA [0] rfl
    refine va_callv (va_runV (As := []) (rest := []) ⟨hx, hb, hml, hown, hts⟩ (k_X12_bad l dC dI h0 v0 h1 v1 x2 4 r0 r1 r2 r3 r4 r5 r6 v3 v4 r7 r8 r9 r10 v5 r11 r12 v6 v7 r13 r14 v8 v9 r15 v10 v11 r16 v12 w13 r17 v14 v15 r18 r19 r20 r21 r22 r23 v16 r24 r25 r26 v17 ⟨i_v1a, i_v1b⟩ ⟨oa_x2, ob_x2⟩ ⟨i_v3a, i_v3b⟩ ⟨i_v4a, i_v4b⟩ ⟨i_v5a, i_v5b⟩ ⟨i_v6a, i_v6b⟩ ⟨i_v7a, i_v7b⟩ ⟨i_v8a, i_v8b⟩ ⟨i_v12a, i_v12b⟩ ⟨i_v16a, i_v16b⟩ ⟨i_v17a, i_v17b⟩ H.size) (cwV 0 hts g_X12_closes_7_1 rfl rfl rfl (by decide +kernel) ⟨Nat.le_of_ble_eq_true rfl, Nat.le_of_ble_eq_true rfl⟩) (pv_PV12 hPc hKc hDc (q0 := 0) rfl) rfl rfl hl.1 rfl (lv_room (Nat.le_of_ble_eq_true rfl)) dX12_closes_17 ⟨Nat.le_of_ble_eq_true rfl, Nat.le_of_ble_eq_true rfl⟩) hS (fun q _ h => hFc q h) hFc (fun u t H1 locs ht hvm hwra3 hB hz1 hk1 hS => ?_)
    have hkra3_0 : ((4 : Int32)).toInt = 4 := by decide
    obtain ⟨x4, oa_x4, ob_x4, pt0_ra3, hP1, hK1, hD1⟩ := hB
    rw [ht] at hP1
    obtain ⟨hP2, hD2⟩ := va_join (wr := (wd_d0032b31 h1 g0 f18)) (w1 := (wd_171f232f h0 v0 h1 v1 x2 x4 4 r0 r1 r2 r3 r4 r5 r6 v3 v4 r7 r8 r9 r10 v5 r11 r12 v6 v7 r13 r14 v8 v9 r15 v10 v11 r16 v12 w13 r17 v14 v15 r18 r19 r20 r21 r22 r23 v16 r24 r25 r26 v17)) hP hD [0] [1] rfl rfl (by decide) (by decide) hk1 hFc hP1 hD1
    clear hP hD hPc hDc hKc hFc hP1 hK1 hD1 hk1 hz1
    generalize H1 = H at hP2 hS ⊢
    have hP := hP2.sub (ws' := (wd_f4cd022e h0 v0 h1 v1 x2 x4 4 r0 r1 r2 r3 r4 r5 r6 v3 v4 r7 r8 r9 r10 v5 r11 r12 v6 v7 r13 r14 v8 v9 r15 v10 v11 r16 v12 w13 r17 v14 v15 r18 r19 r20 r21 r22 r23 v16 r24 r25 r26 v17 h1 g0 f18)) [1, 0] rfl
    have hD := hD2.sub (ws' := (wd_f4cd022e h0 v0 h1 v1 x2 x4 4 r0 r1 r2 r3 r4 r5 r6 v3 v4 r7 r8 r9 r10 v5 r11 r12 v6 v7 r13 r14 v8 v9 r15 v10 v11 r16 v12 w13 r17 v14 v15 r18 r19 r20 r21 r22 r23 v16 r24 r25 r26 v17 h1 g0 f18)) [1, 0] (by decide) rfl
    clear hP2 hD2
    refine lv_aload_n hx hb dX12_closes_20 rfl (lv_at hl 0 rfl) ?_
    refine lv_dup hx hb dX12_closes_21 rfl ?_
    refine va_get (D := (dC, dI)) (ci := 12) (v := .int x2) (C := RX12) (T := TX12) (N := 48) hx hb hts (fun _ h => List.mem_cons_of_mem _ (List.mem_append_right _ h)) hown hK hP 0 rfl rfl 3 (by decide) (hts (.fieldLink RX12 112 "LeftArgumentsModel" "at" "I") (List.mem_cons_of_mem _ (List.mem_append_left _ (List.mem_of_getElem? (i := 3) rfl)))) (fun _ h9 => h9) rfl dX12_closes_22 ?_
    refine lv_iconst (v := 1) hx hb dX12_closes_25 (by decide) ?_
    refine lv_iadd hx hb dX12_closes_26 ?_
    refine lv_topi (fun t5 et5 => ?_)
    have gt5 : t5.toInt = x2.toInt + 1 := pv_add (a := x2.toInt) (b := 1) et5 rfl (by decide) (by omega) (by omega)
    refine va_put (D := (dC, dI)) (ci := 12) (v := .int t5) (ty := .int) (C := RX12) (T := TX12) (N := 48) hx hb hts (fun _ h => List.mem_cons_of_mem _ (List.mem_append_right _ h)) tyX12 tyX12_ok nmX12 hown hK hP hD hS 0 rfl rfl 3 (by decide) (hts (.fieldLink RX12 112 "LeftArgumentsModel" "at" "I") (List.mem_cons_of_mem _ (List.mem_append_left _ (List.mem_of_getElem? (i := 3) rfl)))) (fun _ h9 => h9) rfl (by decide +kernel) rfl rfl (Nat.le_of_ble_eq_true rfl) dX12_closes_27 (fun H locs hP hD hS => ?_)
    have hP : va_P (dC, dI) vwCl (wd_f4cd022e h0 v0 h1 v1 t5 x4 4 r0 r1 r2 r3 r4 r5 r6 v3 v4 r7 r8 r9 r10 v5 r11 r12 v6 v7 r13 r14 v8 v9 r15 v10 v11 r16 v12 w13 r17 v14 v15 r18 r19 r20 r21 r22 r23 v16 r24 r25 r26 v17 h1 g0 f18) H := hP
    have hD : va_D A (wd_f4cd022e h0 v0 h1 v1 t5 x4 4 r0 r1 r2 r3 r4 r5 r6 v3 v4 r7 r8 r9 r10 v5 r11 r12 v6 v7 r13 r14 v8 v9 r15 v10 v11 r16 v12 w13 r17 v14 v15 r18 r19 r20 r21 r22 r23 v16 r24 r25 r26 v17 h1 g0 f18) := hD
    refine lv_aload_n hx hb dX12_closes_30 rfl (lv_at hl 0 rfl) ?_
    refine lv_dup hx hb dX12_closes_31 rfl ?_
    refine va_get (D := (dC, dI)) (ci := 12) (v := .int 4) (C := RX12) (T := TX12) (N := 48) hx hb hts (fun _ h => List.mem_cons_of_mem _ (List.mem_append_right _ h)) hown hK hP 0 rfl rfl 5 (by decide) (hts (.fieldLink RX12 125 "LeftArgumentsModel" "deep" "I") (List.mem_cons_of_mem _ (List.mem_append_left _ (List.mem_of_getElem? (i := 17) rfl)))) (fun _ h9 => h9) rfl dX12_closes_32 ?_
    refine lv_iconst (v := 1) hx hb dX12_closes_35 (by decide) ?_
    refine lv_isub hx hb dX12_closes_36 ?_
    refine lv_topi (fun tv6 etv6 => ?_)
    obtain rfl : tv6 = (3 : Int32) := etv6.trans (by first | rfl | decide)
    refine va_put (D := (dC, dI)) (ci := 12) (v := .int 3) (ty := .int) (C := RX12) (T := TX12) (N := 48) hx hb hts (fun _ h => List.mem_cons_of_mem _ (List.mem_append_right _ h)) tyX12 tyX12_ok nmX12 hown hK hP hD hS 0 rfl rfl 5 (by decide) (hts (.fieldLink RX12 125 "LeftArgumentsModel" "deep" "I") (List.mem_cons_of_mem _ (List.mem_append_left _ (List.mem_of_getElem? (i := 17) rfl)))) (fun _ h9 => h9) rfl (by decide +kernel) rfl rfl (Nat.le_of_ble_eq_true rfl) dX12_closes_37 (fun H locs hP hD hS => ?_)
    have hP : va_P (dC, dI) vwCl (wd_f4cd022e h0 v0 h1 v1 t5 x4 3 r0 r1 r2 r3 r4 r5 r6 v3 v4 r7 r8 r9 r10 v5 r11 r12 v6 v7 r13 r14 v8 v9 r15 v10 v11 r16 v12 w13 r17 v14 v15 r18 r19 r20 r21 r22 r23 v16 r24 r25 r26 v17 h1 g0 f18) H := hP
    have hD : va_D A (wd_f4cd022e h0 v0 h1 v1 t5 x4 3 r0 r1 r2 r3 r4 r5 r6 v3 v4 r7 r8 r9 r10 v5 r11 r12 v6 v7 r13 r14 v8 v9 r15 v10 v11 r16 v12 w13 r17 v14 v15 r18 r19 r20 r21 r22 r23 v16 r24 r25 r26 v17 h1 g0 f18) := hD
    subst hQ
    have hP9 := hP.sub (ws' := (wd_f4cd022e h0 v0 h1 v1 t5 x4 3 r0 r1 r2 r3 r4 r5 r6 v3 v4 r7 r8 r9 r10 v5 r11 r12 v6 v7 r13 r14 v8 v9 r15 v10 v11 r16 v12 w13 r17 v14 v15 r18 r19 r20 r21 r22 r23 v16 r24 r25 r26 v17 h1 g0 f18)) [0, 1] rfl
    have hD9 := hD.sub (ws' := (wd_f4cd022e h0 v0 h1 v1 t5 x4 3 r0 r1 r2 r3 r4 r5 r6 v3 v4 r7 r8 r9 r10 v5 r11 r12 v6 v7 r13 r14 v8 v9 r15 v10 v11 r16 v12 w13 r17 v14 v15 r18 r19 r20 r21 r22 r23 v16 r24 r25 r26 v17 h1 g0 f18)) [0, 1] (by decide) rfl
    have hK9 := hK.sub (tys' := []) [] rfl
    exact W.vret hx hb hr (fun t ht hW => ⟨⟨(), rfl, trivial, Or.inr (⟨t5, x4, by first | omega | decide, by first | omega | decide, oa_x4, ob_x4, by omega, by first | (apply pg_take.ok <;> first | assumption | omega) | (apply pg_take.no <;> first | assumption | omega), by rw [ht]; exact hP9, va_K.moved hW.alike hK9, hD9⟩)⟩, hS.F ht⟩) hS.2.2 dX12_closes_40
  · skip
    obtain ⟨x7, oa_x7, ob_x7, pt0_ra1, pt1_ra1, pt2_ra1, pt3_ra1, pt4_ra1, pt5_ra1, pt6_ra1, pt7_ra1, hP1, hK1, hD1⟩ := hB
    rw [ht] at hP1
    obtain ⟨hP2, hD2⟩ := va_join (wr := []) (w1 := (wd_f4cd022e h0 v0 h1 v1 x7 (-1) 4 r0 r1 r2 r3 r4 r5 r6 v3 v4 r7 r8 r9 r10 v5 r11 r12 v6 v7 r13 r14 v8 v9 r15 v10 v11 r16 v12 w13 r17 v14 v15 r18 r19 r20 r21 r22 r23 v16 r24 r25 r26 v17 h1 g0 f18)) hP hD [0, 1] [] rfl rfl (by decide) (by decide) hk1 hFc hP1 hD1
    clear hP hD hPc hDc hKc hFc hP1 hK1 hD1 hk1 hz1
    generalize H1 = H at hP2 hS ⊢
    have hP : va_P (dC, dI) vwCl (wd_f4cd022e h0 v0 h1 v1 x7 (-1) 4 r0 r1 r2 r3 r4 r5 r6 v3 v4 r7 r8 r9 r10 v5 r11 r12 v6 v7 r13 r14 v8 v9 r15 v10 v11 r16 v12 w13 r17 v14 v15 r18 r19 r20 r21 r22 r23 v16 r24 r25 r26 v17 h1 g0 f18) H := hP2
    have hD : va_D A (wd_f4cd022e h0 v0 h1 v1 x7 (-1) 4 r0 r1 r2 r3 r4 r5 r6 v3 v4 r7 r8 r9 r10 v5 r11 r12 v6 v7 r13 r14 v8 v9 r15 v10 v11 r16 v12 w13 r17 v14 v15 r18 r19 r20 r21 r22 r23 v16 r24 r25 r26 v17 h1 g0 f18) := hD2
    clear hP2 hD2
    refine lv_iload_n hx hb dX12_closes_12 rfl (lv_at hl 1 rfl) ?_
    refine lv_icmp_eq (tgt := 20) hx hb dX12_closes_13 (by decide) (fun c8 => ?_) (fun c8 => ?_)
    · skip
      have fc8 : ra1.toInt = 41 := congrArg Int32.toInt c8
      refine lv_aload_n hx hb dX12_closes_20 rfl (lv_at hl 0 rfl) ?_
      refine lv_dup hx hb dX12_closes_21 rfl ?_
      refine va_get (D := (dC, dI)) (ci := 12) (v := .int x7) (C := RX12) (T := TX12) (N := 48) hx hb hts (fun _ h => List.mem_cons_of_mem _ (List.mem_append_right _ h)) hown hK hP 0 rfl rfl 3 (by decide) (hts (.fieldLink RX12 112 "LeftArgumentsModel" "at" "I") (List.mem_cons_of_mem _ (List.mem_append_left _ (List.mem_of_getElem? (i := 3) rfl)))) (fun _ h9 => h9) rfl dX12_closes_22 ?_
      refine lv_iconst (v := 1) hx hb dX12_closes_25 (by decide) ?_
      refine lv_iadd hx hb dX12_closes_26 ?_
      refine lv_topi (fun t9 et9 => ?_)
      have gt9 : t9.toInt = x7.toInt + 1 := pv_add (a := x7.toInt) (b := 1) et9 rfl (by decide) (by omega) (by omega)
      refine va_put (D := (dC, dI)) (ci := 12) (v := .int t9) (ty := .int) (C := RX12) (T := TX12) (N := 48) hx hb hts (fun _ h => List.mem_cons_of_mem _ (List.mem_append_right _ h)) tyX12 tyX12_ok nmX12 hown hK hP hD hS 0 rfl rfl 3 (by decide) (hts (.fieldLink RX12 112 "LeftArgumentsModel" "at" "I") (List.mem_cons_of_mem _ (List.mem_append_left _ (List.mem_of_getElem? (i := 3) rfl)))) (fun _ h9 => h9) rfl (by decide +kernel) rfl rfl (Nat.le_of_ble_eq_true rfl) dX12_closes_27 (fun H locs hP hD hS => ?_)
      have hP : va_P (dC, dI) vwCl (wd_f4cd022e h0 v0 h1 v1 t9 (-1) 4 r0 r1 r2 r3 r4 r5 r6 v3 v4 r7 r8 r9 r10 v5 r11 r12 v6 v7 r13 r14 v8 v9 r15 v10 v11 r16 v12 w13 r17 v14 v15 r18 r19 r20 r21 r22 r23 v16 r24 r25 r26 v17 h1 g0 f18) H := hP
      have hD : va_D A (wd_f4cd022e h0 v0 h1 v1 t9 (-1) 4 r0 r1 r2 r3 r4 r5 r6 v3 v4 r7 r8 r9 r10 v5 r11 r12 v6 v7 r13 r14 v8 v9 r15 v10 v11 r16 v12 w13 r17 v14 v15 r18 r19 r20 r21 r22 r23 v16 r24 r25 r26 v17 h1 g0 f18) := hD
      refine lv_aload_n hx hb dX12_closes_30 rfl (lv_at hl 0 rfl) ?_
      refine lv_dup hx hb dX12_closes_31 rfl ?_
      refine va_get (D := (dC, dI)) (ci := 12) (v := .int 4) (C := RX12) (T := TX12) (N := 48) hx hb hts (fun _ h => List.mem_cons_of_mem _ (List.mem_append_right _ h)) hown hK hP 0 rfl rfl 5 (by decide) (hts (.fieldLink RX12 125 "LeftArgumentsModel" "deep" "I") (List.mem_cons_of_mem _ (List.mem_append_left _ (List.mem_of_getElem? (i := 17) rfl)))) (fun _ h9 => h9) rfl dX12_closes_32 ?_
      refine lv_iconst (v := 1) hx hb dX12_closes_35 (by decide) ?_
      refine lv_isub hx hb dX12_closes_36 ?_
      refine lv_topi (fun tv10 etv10 => ?_)
      obtain rfl : tv10 = (3 : Int32) := etv10.trans (by first | rfl | decide)
      refine va_put (D := (dC, dI)) (ci := 12) (v := .int 3) (ty := .int) (C := RX12) (T := TX12) (N := 48) hx hb hts (fun _ h => List.mem_cons_of_mem _ (List.mem_append_right _ h)) tyX12 tyX12_ok nmX12 hown hK hP hD hS 0 rfl rfl 5 (by decide) (hts (.fieldLink RX12 125 "LeftArgumentsModel" "deep" "I") (List.mem_cons_of_mem _ (List.mem_append_left _ (List.mem_of_getElem? (i := 17) rfl)))) (fun _ h9 => h9) rfl (by decide +kernel) rfl rfl (Nat.le_of_ble_eq_true rfl) dX12_closes_37 (fun H locs hP hD hS => ?_)
      have hP : va_P (dC, dI) vwCl (wd_f4cd022e h0 v0 h1 v1 t9 (-1) 3 r0 r1 r2 r3 r4 r5 r6 v3 v4 r7 r8 r9 r10 v5 r11 r12 v6 v7 r13 r14 v8 v9 r15 v10 v11 r16 v12 w13 r17 v14 v15 r18 r19 r20 r21 r22 r23 v16 r24 r25 r26 v17 h1 g0 f18) H := hP
      have hD : va_D A (wd_f4cd022e h0 v0 h1 v1 t9 (-1) 3 r0 r1 r2 r3 r4 r5 r6 v3 v4 r7 r8 r9 r10 v5 r11 r12 v6 v7 r13 r14 v8 v9 r15 v10 v11 r16 v12 w13 r17 v14 v15 r18 r19 r20 r21 r22 r23 v16 r24 r25 r26 v17 h1 g0 f18) := hD
      subst hQ
      have hP9 := hP.sub (ws' := (wd_f4cd022e h0 v0 h1 v1 t9 (-1) 3 r0 r1 r2 r3 r4 r5 r6 v3 v4 r7 r8 r9 r10 v5 r11 r12 v6 v7 r13 r14 v8 v9 r15 v10 v11 r16 v12 w13 r17 v14 v15 r18 r19 r20 r21 r22 r23 v16 r24 r25 r26 v17 h1 g0 f18)) [0, 1] rfl
      have hD9 := hD.sub (ws' := (wd_f4cd022e h0 v0 h1 v1 t9 (-1) 3 r0 r1 r2 r3 r4 r5 r6 v3 v4 r7 r8 r9 r10 v5 r11 r12 v6 v7 r13 r14 v8 v9 r15 v10 v11 r16 v12 w13 r17 v14 v15 r18 r19 r20 r21 r22 r23 v16 r24 r25 r26 v17 h1 g0 f18)) [0, 1] (by decide) rfl
      have hK9 := hK.sub (tys' := []) [] rfl
      exact W.vret hx hb hr (fun t ht hW => ⟨⟨(), rfl, trivial, Or.inl ⟨t9, by first | omega | decide, by first | omega | decide, by omega, by first | (apply pg_take.ok <;> first | assumption | omega) | (apply pg_take.no <;> first | assumption | omega), by rw [ht]; exact hP9, va_K.moved hW.alike hK9, hD9⟩⟩, hS.F ht⟩) hS.2.2 dX12_closes_40
    · skip
      have fc8 : ¬ (ra1.toInt = 41) := fun h9 => c8 (Int32.toInt_inj.mp h9)
      refine lv_aload_n hx hb dX12_closes_16 rfl (lv_at hl 0 rfl) ?_
      have hPc := hP.sub (ws' := (wd_171f232f h0 v0 h1 v1 x7 (-1) 4 r0 r1 r2 r3 r4 r5 r6 v3 v4 r7 r8 r9 r10 v5 r11 r12 v6 v7 r13 r14 v8 v9 r15 v10 v11 r16 v12 w13 r17 v14 v15 r18 r19 r20 r21 r22 r23 v16 r24 r25 r26 v17)) [0] rfl
      have hDc := hD.sub (ws' := (wd_171f232f h0 v0 h1 v1 x7 (-1) 4 r0 r1 r2 r3 r4 r5 r6 v3 v4 r7 r8 r9 r10 v5 r11 r12 v6 v7 r13 r14 v8 v9 r15 v10 v11 r16 v12 w13 r17 v14 v15 r18 r19 r20 r21 r22 r23 v16 r24 r25 r26 v17)) [0] (by decide) rfl
      have hKc := hK.sub (tys' := []) [] rfl
      have hFc := va_free (wc := (wd_171f232f h0 v0 h1 v1 x7 (-1) 4 r0 r1 r2 r3 r4 r5 r6 v3 v4 r7 r8 r9 r10 v5 r11 r12 v6 v7 r13 r14 v8 v9 r15 v10 v11 r16 v12 w13 r17 v14 v15 r18 r19 r20 r21 r22 r23 v16 r24 r25 r26 v17)) hD hS hA [0] rfl
      refine va_callv (va_runV (As := []) (rest := []) ⟨hx, hb, hml, hown, hts⟩ (k_X12_bad l dC dI h0 v0 h1 v1 x7 4 r0 r1 r2 r3 r4 r5 r6 v3 v4 r7 r8 r9 r10 v5 r11 r12 v6 v7 r13 r14 v8 v9 r15 v10 v11 r16 v12 w13 r17 v14 v15 r18 r19 r20 r21 r22 r23 v16 r24 r25 r26 v17 ⟨i_v1a, i_v1b⟩ ⟨oa_x7, by first | omega | decide⟩ ⟨i_v3a, i_v3b⟩ ⟨i_v4a, i_v4b⟩ ⟨i_v5a, i_v5b⟩ ⟨i_v6a, i_v6b⟩ ⟨i_v7a, i_v7b⟩ ⟨i_v8a, i_v8b⟩ ⟨i_v12a, i_v12b⟩ ⟨i_v16a, i_v16b⟩ ⟨i_v17a, i_v17b⟩ H.size) (cwV 0 hts g_X12_closes_7_1 rfl rfl rfl (by decide +kernel) ⟨Nat.le_of_ble_eq_true rfl, Nat.le_of_ble_eq_true rfl⟩) (pv_PV12 hPc hKc hDc (q0 := 0) rfl) rfl rfl hl.1 rfl (lv_room (Nat.le_of_ble_eq_true rfl)) dX12_closes_17 ⟨Nat.le_of_ble_eq_true rfl, Nat.le_of_ble_eq_true rfl⟩) hS (fun q _ h => hFc q h) hFc (fun u t H1 locs ht hvm hwra11 hB hz1 hk1 hS => ?_)
      have hkra11_0 : ((4 : Int32)).toInt = 4 := by decide
      obtain ⟨x12, oa_x12, ob_x12, pt0_ra11, hP1, hK1, hD1⟩ := hB
      rw [ht] at hP1
      obtain ⟨hP2, hD2⟩ := va_join (wr := (wd_d0032b31 h1 g0 f18)) (w1 := (wd_171f232f h0 v0 h1 v1 x7 x12 4 r0 r1 r2 r3 r4 r5 r6 v3 v4 r7 r8 r9 r10 v5 r11 r12 v6 v7 r13 r14 v8 v9 r15 v10 v11 r16 v12 w13 r17 v14 v15 r18 r19 r20 r21 r22 r23 v16 r24 r25 r26 v17)) hP hD [0] [1] rfl rfl (by decide) (by decide) hk1 hFc hP1 hD1
      clear hP hD hPc hDc hKc hFc hP1 hK1 hD1 hk1 hz1
      generalize H1 = H at hP2 hS ⊢
      have hP := hP2.sub (ws' := (wd_f4cd022e h0 v0 h1 v1 x7 x12 4 r0 r1 r2 r3 r4 r5 r6 v3 v4 r7 r8 r9 r10 v5 r11 r12 v6 v7 r13 r14 v8 v9 r15 v10 v11 r16 v12 w13 r17 v14 v15 r18 r19 r20 r21 r22 r23 v16 r24 r25 r26 v17 h1 g0 f18)) [1, 0] rfl
      have hD := hD2.sub (ws' := (wd_f4cd022e h0 v0 h1 v1 x7 x12 4 r0 r1 r2 r3 r4 r5 r6 v3 v4 r7 r8 r9 r10 v5 r11 r12 v6 v7 r13 r14 v8 v9 r15 v10 v11 r16 v12 w13 r17 v14 v15 r18 r19 r20 r21 r22 r23 v16 r24 r25 r26 v17 h1 g0 f18)) [1, 0] (by decide) rfl
      clear hP2 hD2
      refine lv_aload_n hx hb dX12_closes_20 rfl (lv_at hl 0 rfl) ?_
      refine lv_dup hx hb dX12_closes_21 rfl ?_
      refine va_get (D := (dC, dI)) (ci := 12) (v := .int x7) (C := RX12) (T := TX12) (N := 48) hx hb hts (fun _ h => List.mem_cons_of_mem _ (List.mem_append_right _ h)) hown hK hP 0 rfl rfl 3 (by decide) (hts (.fieldLink RX12 112 "LeftArgumentsModel" "at" "I") (List.mem_cons_of_mem _ (List.mem_append_left _ (List.mem_of_getElem? (i := 3) rfl)))) (fun _ h9 => h9) rfl dX12_closes_22 ?_
      refine lv_iconst (v := 1) hx hb dX12_closes_25 (by decide) ?_
      refine lv_iadd hx hb dX12_closes_26 ?_
      refine lv_topi (fun t13 et13 => ?_)
      have gt13 : t13.toInt = x7.toInt + 1 := pv_add (a := x7.toInt) (b := 1) et13 rfl (by decide) (by omega) (by omega)
      refine va_put (D := (dC, dI)) (ci := 12) (v := .int t13) (ty := .int) (C := RX12) (T := TX12) (N := 48) hx hb hts (fun _ h => List.mem_cons_of_mem _ (List.mem_append_right _ h)) tyX12 tyX12_ok nmX12 hown hK hP hD hS 0 rfl rfl 3 (by decide) (hts (.fieldLink RX12 112 "LeftArgumentsModel" "at" "I") (List.mem_cons_of_mem _ (List.mem_append_left _ (List.mem_of_getElem? (i := 3) rfl)))) (fun _ h9 => h9) rfl (by decide +kernel) rfl rfl (Nat.le_of_ble_eq_true rfl) dX12_closes_27 (fun H locs hP hD hS => ?_)
      have hP : va_P (dC, dI) vwCl (wd_f4cd022e h0 v0 h1 v1 t13 x12 4 r0 r1 r2 r3 r4 r5 r6 v3 v4 r7 r8 r9 r10 v5 r11 r12 v6 v7 r13 r14 v8 v9 r15 v10 v11 r16 v12 w13 r17 v14 v15 r18 r19 r20 r21 r22 r23 v16 r24 r25 r26 v17 h1 g0 f18) H := hP
      have hD : va_D A (wd_f4cd022e h0 v0 h1 v1 t13 x12 4 r0 r1 r2 r3 r4 r5 r6 v3 v4 r7 r8 r9 r10 v5 r11 r12 v6 v7 r13 r14 v8 v9 r15 v10 v11 r16 v12 w13 r17 v14 v15 r18 r19 r20 r21 r22 r23 v16 r24 r25 r26 v17 h1 g0 f18) := hD
      refine lv_aload_n hx hb dX12_closes_30 rfl (lv_at hl 0 rfl) ?_
      refine lv_dup hx hb dX12_closes_31 rfl ?_
      refine va_get (D := (dC, dI)) (ci := 12) (v := .int 4) (C := RX12) (T := TX12) (N := 48) hx hb hts (fun _ h => List.mem_cons_of_mem _ (List.mem_append_right _ h)) hown hK hP 0 rfl rfl 5 (by decide) (hts (.fieldLink RX12 125 "LeftArgumentsModel" "deep" "I") (List.mem_cons_of_mem _ (List.mem_append_left _ (List.mem_of_getElem? (i := 17) rfl)))) (fun _ h9 => h9) rfl dX12_closes_32 ?_
      refine lv_iconst (v := 1) hx hb dX12_closes_35 (by decide) ?_
      refine lv_isub hx hb dX12_closes_36 ?_
      refine lv_topi (fun tv14 etv14 => ?_)
      obtain rfl : tv14 = (3 : Int32) := etv14.trans (by first | rfl | decide)
      refine va_put (D := (dC, dI)) (ci := 12) (v := .int 3) (ty := .int) (C := RX12) (T := TX12) (N := 48) hx hb hts (fun _ h => List.mem_cons_of_mem _ (List.mem_append_right _ h)) tyX12 tyX12_ok nmX12 hown hK hP hD hS 0 rfl rfl 5 (by decide) (hts (.fieldLink RX12 125 "LeftArgumentsModel" "deep" "I") (List.mem_cons_of_mem _ (List.mem_append_left _ (List.mem_of_getElem? (i := 17) rfl)))) (fun _ h9 => h9) rfl (by decide +kernel) rfl rfl (Nat.le_of_ble_eq_true rfl) dX12_closes_37 (fun H locs hP hD hS => ?_)
      have hP : va_P (dC, dI) vwCl (wd_f4cd022e h0 v0 h1 v1 t13 x12 3 r0 r1 r2 r3 r4 r5 r6 v3 v4 r7 r8 r9 r10 v5 r11 r12 v6 v7 r13 r14 v8 v9 r15 v10 v11 r16 v12 w13 r17 v14 v15 r18 r19 r20 r21 r22 r23 v16 r24 r25 r26 v17 h1 g0 f18) H := hP
      have hD : va_D A (wd_f4cd022e h0 v0 h1 v1 t13 x12 3 r0 r1 r2 r3 r4 r5 r6 v3 v4 r7 r8 r9 r10 v5 r11 r12 v6 v7 r13 r14 v8 v9 r15 v10 v11 r16 v12 w13 r17 v14 v15 r18 r19 r20 r21 r22 r23 v16 r24 r25 r26 v17 h1 g0 f18) := hD
      subst hQ
      have hP9 := hP.sub (ws' := (wd_f4cd022e h0 v0 h1 v1 t13 x12 3 r0 r1 r2 r3 r4 r5 r6 v3 v4 r7 r8 r9 r10 v5 r11 r12 v6 v7 r13 r14 v8 v9 r15 v10 v11 r16 v12 w13 r17 v14 v15 r18 r19 r20 r21 r22 r23 v16 r24 r25 r26 v17 h1 g0 f18)) [0, 1] rfl
      have hD9 := hD.sub (ws' := (wd_f4cd022e h0 v0 h1 v1 t13 x12 3 r0 r1 r2 r3 r4 r5 r6 v3 v4 r7 r8 r9 r10 v5 r11 r12 v6 v7 r13 r14 v8 v9 r15 v10 v11 r16 v12 w13 r17 v14 v15 r18 r19 r20 r21 r22 r23 v16 r24 r25 r26 v17 h1 g0 f18)) [0, 1] (by decide) rfl
      have hK9 := hK.sub (tys' := []) [] rfl
      exact W.vret hx hb hr (fun t ht hW => ⟨⟨(), rfl, trivial, Or.inr (⟨t13, x12, by first | omega | decide, by first | omega | decide, oa_x12, ob_x12, by omega, by first | (apply pg_take.ok <;> first | assumption | omega) | (apply pg_take.no <;> first | assumption | omega), by rw [ht]; exact hP9, va_K.moved hW.alike hK9, hD9⟩)⟩, hS.F ht⟩) hS.2.2 dX12_closes_40
def q_X12_unit_3 : List Cond := .code yX12_unit cX12_unit 2 none :: (([.code yX12_look cX12_look 1 (some .int), .code yX12_here cX12_here 1 (some .int), .fieldLink RX12 112 "LeftArgumentsModel" "at" "I", .fieldLink RX12 109 "LeftArgumentsModel" "size" "I", .fieldLink RX12 9 "LeftArgumentsModel" "tape" "[I", .initialized RX12, .instanceMethod yX12_here, .selects RX12 yX12_here yX12_here, .methodLink RX12 115 yX12_here, .instanceMethod yX12_look, .selects RX12 yX12_look yX12_look, .methodLink RX12 131 yX12_look, .code yX12_sum cX12_sum 2 none, .code yX12_term cX12_term 2 none, .code yX12_atom cX12_atom 2 none, .code yX12_isDigit cX12_isDigit 1 (some .boolean), .static yX12_isDigit, .methodLink RX12 134 yX12_isDigit, .code yX12_letterOf cX12_letterOf 1 (some .int), .static yX12_letterOf, .methodLink RX12 145 yX12_letterOf, .code yX12_bad cX12_bad 1 none, .fieldLink RX12 119 "LeftArgumentsModel" "wrong" "I", .instanceMethod yX12_bad, .selects RX12 yX12_bad yX12_bad, .methodLink RX12 128 yX12_bad, .code yX12_opens cX12_opens 1 none, .fieldLink RX12 125 "LeftArgumentsModel" "deep" "I", .instanceMethod yX12_opens, .selects RX12 yX12_opens yX12_opens, .methodLink RX12 149 yX12_opens, .code yX12_put cX12_put 3 none, .fieldLink RX12 13 "LeftArgumentsModel" "code" "[I", .fieldLink RX12 122 "LeftArgumentsModel" "text" "I", .fieldLink RX12 19 "LeftArgumentsModel" "codes" "[I", .fieldLink RX12 16 "LeftArgumentsModel" "value" "[I", .instanceMethod yX12_put, .selects RX12 yX12_put yX12_put, .methodLink RX12 141 yX12_put, .code yX12_plainNumber cX12_plainNumber 3 (some .int), .instanceMethod yX12_plainNumber, .selects RX12 yX12_plainNumber yX12_plainNumber, .methodLink RX12 138 yX12_plainNumber, .instanceMethod yX12_atom, .selects RX12 yX12_atom yX12_atom, .methodLink RX12 159 yX12_atom, .instanceMethod yX12_term, .selects RX12 yX12_term yX12_term, .methodLink RX12 162 yX12_term, .instanceMethod yX12_sum, .selects RX12 yX12_sum yX12_sum, .methodLink RX12 152 yX12_sum, .code yX12_closes cX12_closes 2 none, .instanceMethod yX12_closes, .selects RX12 yX12_closes yX12_closes, .methodLink RX12 155 yX12_closes, .code yX12_compare cX12_compare 2 none, .code yX12_isSign cX12_isSign 1 (some .boolean), .static yX12_isSign, .methodLink RX12 165 yX12_isSign, .instanceMethod yX12_compare, .selects RX12 yX12_compare yX12_compare, .methodLink RX12 174 yX12_compare, .code yX12_condition cX12_condition 1 none, .code yX12_unit cX12_unit 2 none, .instanceMethod yX12_unit, .selects RX12 yX12_unit yX12_unit, .methodLink RX12 168 yX12_unit, .code yX12_goOnAnd cX12_goOnAnd 1 none, .instanceMethod yX12_goOnAnd, .selects RX12 yX12_goOnAnd yX12_goOnAnd, .methodLink RX12 177 yX12_goOnAnd, .code yX12_goOnOr cX12_goOnOr 1 none, .instanceMethod yX12_goOnOr, .selects RX12 yX12_goOnOr yX12_goOnOr, .methodLink RX12 180 yX12_goOnOr, .instanceMethod yX12_condition, .selects RX12 yX12_condition yX12_condition, .methodLink RX12 171 yX12_condition] : List Cond) ++ wsX120)
set_option maxRecDepth 20000 in
theorem g_X12_unit_3_0 : GoodIn q_X12_unit_3 (wsV RX12 131 RX12 yX12_look q_X12_look) := goodIn_app (goodIn_r _ [12, 10, 11, 6] rfl (by decide +kernel)) (goodIn_ca (goodIn_r (.code yX12_look cX12_look 1 (some .int) :: [.code yX12_here cX12_here 1 (some .int), .fieldLink RX12 112 "LeftArgumentsModel" "at" "I", .fieldLink RX12 109 "LeftArgumentsModel" "size" "I", .fieldLink RX12 9 "LeftArgumentsModel" "tape" "[I", .initialized RX12, .instanceMethod yX12_here, .selects RX12 yX12_here yX12_here, .methodLink RX12 115 yX12_here]) [1, 2, 3, 4, 5, 6, 7, 8, 9] rfl (by decide +kernel)) (goodIn_sub (fun _ h => List.mem_cons_of_mem _ (List.mem_append_right _ h)) gwX12))
set_option maxRecDepth 20000 in
theorem g_X12_unit_3_1 : GoodIn q_X12_unit_3 (wsV RX12 152 RX12 yX12_sum q_X12_sum_3) := goodIn_app (goodIn_r _ [52, 50, 51, 6] rfl (by decide +kernel)) (goodIn_ca (goodIn_r (.code yX12_sum cX12_sum 2 none :: [.code yX12_term cX12_term 2 none, .code yX12_atom cX12_atom 2 none, .code yX12_look cX12_look 1 (some .int), .code yX12_here cX12_here 1 (some .int), .fieldLink RX12 112 "LeftArgumentsModel" "at" "I", .fieldLink RX12 109 "LeftArgumentsModel" "size" "I", .fieldLink RX12 9 "LeftArgumentsModel" "tape" "[I", .initialized RX12, .instanceMethod yX12_here, .selects RX12 yX12_here yX12_here, .methodLink RX12 115 yX12_here, .instanceMethod yX12_look, .selects RX12 yX12_look yX12_look, .methodLink RX12 131 yX12_look, .code yX12_isDigit cX12_isDigit 1 (some .boolean), .static yX12_isDigit, .methodLink RX12 134 yX12_isDigit, .code yX12_letterOf cX12_letterOf 1 (some .int), .static yX12_letterOf, .methodLink RX12 145 yX12_letterOf, .code yX12_bad cX12_bad 1 none, .fieldLink RX12 119 "LeftArgumentsModel" "wrong" "I", .instanceMethod yX12_bad, .selects RX12 yX12_bad yX12_bad, .methodLink RX12 128 yX12_bad, .code yX12_opens cX12_opens 1 none, .fieldLink RX12 125 "LeftArgumentsModel" "deep" "I", .instanceMethod yX12_opens, .selects RX12 yX12_opens yX12_opens, .methodLink RX12 149 yX12_opens, .code yX12_sum cX12_sum 2 none, .code yX12_put cX12_put 3 none, .fieldLink RX12 13 "LeftArgumentsModel" "code" "[I", .fieldLink RX12 122 "LeftArgumentsModel" "text" "I", .fieldLink RX12 19 "LeftArgumentsModel" "codes" "[I", .fieldLink RX12 16 "LeftArgumentsModel" "value" "[I", .instanceMethod yX12_put, .selects RX12 yX12_put yX12_put, .methodLink RX12 141 yX12_put, .code yX12_plainNumber cX12_plainNumber 3 (some .int), .instanceMethod yX12_plainNumber, .selects RX12 yX12_plainNumber yX12_plainNumber, .methodLink RX12 138 yX12_plainNumber, .instanceMethod yX12_atom, .selects RX12 yX12_atom yX12_atom, .methodLink RX12 159 yX12_atom, .instanceMethod yX12_term, .selects RX12 yX12_term yX12_term, .methodLink RX12 162 yX12_term, .instanceMethod yX12_sum, .selects RX12 yX12_sum yX12_sum, .methodLink RX12 152 yX12_sum, .code yX12_closes cX12_closes 2 none, .instanceMethod yX12_closes, .selects RX12 yX12_closes yX12_closes, .methodLink RX12 155 yX12_closes]) [13, 14, 15, 1, 2, 3, 4, 5, 6, 7, 8, 9, 10, 11, 12, 16, 17, 18, 19, 20, 21, 22, 23, 24, 25, 26, 27, 28, 29, 30, 31, 13, 32, 33, 34, 35, 36, 37, 38, 39, 40, 41, 42, 43, 44, 45, 46, 47, 48, 49, 50, 51, 52, 53, 54, 55, 56] rfl (by decide +kernel)) (goodIn_sub (fun _ h => List.mem_cons_of_mem _ (List.mem_append_right _ h)) gwX12))
set_option maxRecDepth 20000 in
theorem g_X12_unit_3_2 : GoodIn q_X12_unit_3 (wsV RX12 174 RX12 yX12_compare q_X12_compare_3) := goodIn_app (goodIn_r _ [63, 61, 62, 6] rfl (by decide +kernel)) (goodIn_ca (goodIn_r (.code yX12_compare cX12_compare 2 none :: [.fieldLink RX12 119 "LeftArgumentsModel" "wrong" "I", .code yX12_look cX12_look 1 (some .int), .code yX12_here cX12_here 1 (some .int), .fieldLink RX12 112 "LeftArgumentsModel" "at" "I", .fieldLink RX12 109 "LeftArgumentsModel" "size" "I", .fieldLink RX12 9 "LeftArgumentsModel" "tape" "[I", .initialized RX12, .instanceMethod yX12_here, .selects RX12 yX12_here yX12_here, .methodLink RX12 115 yX12_here, .instanceMethod yX12_look, .selects RX12 yX12_look yX12_look, .methodLink RX12 131 yX12_look, .code yX12_isSign cX12_isSign 1 (some .boolean), .static yX12_isSign, .methodLink RX12 165 yX12_isSign, .code yX12_bad cX12_bad 1 none, .instanceMethod yX12_bad, .selects RX12 yX12_bad yX12_bad, .methodLink RX12 128 yX12_bad, .code yX12_sum cX12_sum 2 none, .code yX12_term cX12_term 2 none, .code yX12_atom cX12_atom 2 none, .code yX12_isDigit cX12_isDigit 1 (some .boolean), .static yX12_isDigit, .methodLink RX12 134 yX12_isDigit, .code yX12_letterOf cX12_letterOf 1 (some .int), .static yX12_letterOf, .methodLink RX12 145 yX12_letterOf, .code yX12_opens cX12_opens 1 none, .fieldLink RX12 125 "LeftArgumentsModel" "deep" "I", .instanceMethod yX12_opens, .selects RX12 yX12_opens yX12_opens, .methodLink RX12 149 yX12_opens, .code yX12_put cX12_put 3 none, .fieldLink RX12 13 "LeftArgumentsModel" "code" "[I", .fieldLink RX12 122 "LeftArgumentsModel" "text" "I", .fieldLink RX12 19 "LeftArgumentsModel" "codes" "[I", .fieldLink RX12 16 "LeftArgumentsModel" "value" "[I", .instanceMethod yX12_put, .selects RX12 yX12_put yX12_put, .methodLink RX12 141 yX12_put, .code yX12_plainNumber cX12_plainNumber 3 (some .int), .instanceMethod yX12_plainNumber, .selects RX12 yX12_plainNumber yX12_plainNumber, .methodLink RX12 138 yX12_plainNumber, .instanceMethod yX12_atom, .selects RX12 yX12_atom yX12_atom, .methodLink RX12 159 yX12_atom, .instanceMethod yX12_term, .selects RX12 yX12_term yX12_term, .methodLink RX12 162 yX12_term, .instanceMethod yX12_sum, .selects RX12 yX12_sum yX12_sum, .methodLink RX12 152 yX12_sum, .code yX12_closes cX12_closes 2 none, .instanceMethod yX12_closes, .selects RX12 yX12_closes yX12_closes, .methodLink RX12 155 yX12_closes]) [57, 23, 1, 2, 3, 4, 5, 6, 7, 8, 9, 10, 11, 12, 58, 59, 60, 22, 24, 25, 26, 13, 14, 15, 16, 17, 18, 19, 20, 21, 27, 28, 29, 30, 31, 32, 33, 34, 35, 36, 37, 38, 39, 40, 41, 42, 43, 44, 45, 46, 47, 48, 49, 50, 51, 52, 53, 54, 55, 56] rfl (by decide +kernel)) (goodIn_sub (fun _ h => List.mem_cons_of_mem _ (List.mem_append_right _ h)) gwX12))
set_option maxRecDepth 20000 in
theorem g_X12_unit_3_5 : GoodIn q_X12_unit_3 (wsV RX12 149 RX12 yX12_opens q_X12_opens_3) := goodIn_app (goodIn_r _ [31, 29, 30, 6] rfl (by decide +kernel)) (goodIn_ca (goodIn_r (.code yX12_opens cX12_opens 1 none :: [.fieldLink RX12 125 "LeftArgumentsModel" "deep" "I", .fieldLink RX12 112 "LeftArgumentsModel" "at" "I"]) [27, 28, 3] rfl (by decide +kernel)) (goodIn_sub (fun _ h => List.mem_cons_of_mem _ (List.mem_append_right _ h)) gwX12))
set_option maxRecDepth 20000 in
theorem g_X12_unit_3_6 : GoodIn q_X12_unit_3 (wsV RX12 171 RX12 yX12_condition q_X12_condition_2) := goodIn_app (goodIn_r _ [79, 77, 78, 6] rfl (by decide +kernel)) (goodIn_ca (goodIn_r (.code yX12_condition cX12_condition 1 none :: [.code yX12_unit cX12_unit 2 none, .code yX12_look cX12_look 1 (some .int), .code yX12_here cX12_here 1 (some .int), .fieldLink RX12 112 "LeftArgumentsModel" "at" "I", .fieldLink RX12 109 "LeftArgumentsModel" "size" "I", .fieldLink RX12 9 "LeftArgumentsModel" "tape" "[I", .initialized RX12, .instanceMethod yX12_here, .selects RX12 yX12_here yX12_here, .methodLink RX12 115 yX12_here, .instanceMethod yX12_look, .selects RX12 yX12_look yX12_look, .methodLink RX12 131 yX12_look, .code yX12_sum cX12_sum 2 none, .code yX12_term cX12_term 2 none, .code yX12_atom cX12_atom 2 none, .code yX12_isDigit cX12_isDigit 1 (some .boolean), .static yX12_isDigit, .methodLink RX12 134 yX12_isDigit, .code yX12_letterOf cX12_letterOf 1 (some .int), .static yX12_letterOf, .methodLink RX12 145 yX12_letterOf, .code yX12_bad cX12_bad 1 none, .fieldLink RX12 119 "LeftArgumentsModel" "wrong" "I", .instanceMethod yX12_bad, .selects RX12 yX12_bad yX12_bad, .methodLink RX12 128 yX12_bad, .code yX12_opens cX12_opens 1 none, .fieldLink RX12 125 "LeftArgumentsModel" "deep" "I", .instanceMethod yX12_opens, .selects RX12 yX12_opens yX12_opens, .methodLink RX12 149 yX12_opens, .code yX12_put cX12_put 3 none, .fieldLink RX12 13 "LeftArgumentsModel" "code" "[I", .fieldLink RX12 122 "LeftArgumentsModel" "text" "I", .fieldLink RX12 19 "LeftArgumentsModel" "codes" "[I", .fieldLink RX12 16 "LeftArgumentsModel" "value" "[I", .instanceMethod yX12_put, .selects RX12 yX12_put yX12_put, .methodLink RX12 141 yX12_put, .code yX12_plainNumber cX12_plainNumber 3 (some .int), .instanceMethod yX12_plainNumber, .selects RX12 yX12_plainNumber yX12_plainNumber, .methodLink RX12 138 yX12_plainNumber, .instanceMethod yX12_atom, .selects RX12 yX12_atom yX12_atom, .methodLink RX12 159 yX12_atom, .instanceMethod yX12_term, .selects RX12 yX12_term yX12_term, .methodLink RX12 162 yX12_term, .instanceMethod yX12_sum, .selects RX12 yX12_sum yX12_sum, .methodLink RX12 152 yX12_sum, .code yX12_closes cX12_closes 2 none, .instanceMethod yX12_closes, .selects RX12 yX12_closes yX12_closes, .methodLink RX12 155 yX12_closes, .code yX12_compare cX12_compare 2 none, .code yX12_isSign cX12_isSign 1 (some .boolean), .static yX12_isSign, .methodLink RX12 165 yX12_isSign, .instanceMethod yX12_compare, .selects RX12 yX12_compare yX12_compare, .methodLink RX12 174 yX12_compare, .code yX12_condition cX12_condition 1 none, .instanceMethod yX12_unit, .selects RX12 yX12_unit yX12_unit, .methodLink RX12 168 yX12_unit, .code yX12_goOnAnd cX12_goOnAnd 1 none, .instanceMethod yX12_goOnAnd, .selects RX12 yX12_goOnAnd yX12_goOnAnd, .methodLink RX12 177 yX12_goOnAnd, .code yX12_goOnOr cX12_goOnOr 1 none, .instanceMethod yX12_goOnOr, .selects RX12 yX12_goOnOr yX12_goOnOr, .methodLink RX12 180 yX12_goOnOr, .instanceMethod yX12_condition, .selects RX12 yX12_condition yX12_condition, .methodLink RX12 171 yX12_condition]) [64, 65, 1, 2, 3, 4, 5, 6, 7, 8, 9, 10, 11, 12, 13, 14, 15, 16, 17, 18, 19, 20, 21, 22, 23, 24, 25, 26, 27, 28, 29, 30, 31, 32, 33, 34, 35, 36, 37, 38, 39, 40, 41, 42, 43, 44, 45, 46, 47, 48, 49, 50, 51, 52, 53, 54, 55, 56, 57, 58, 59, 60, 61, 62, 63, 64, 66, 67, 68, 69, 70, 71, 72, 73, 74, 75, 76, 77, 78, 79] rfl (by decide +kernel)) (goodIn_sub (fun _ h => List.mem_cons_of_mem _ (List.mem_append_right _ h)) gwX12))
set_option maxRecDepth 20000 in
theorem g_X12_unit_3_7 : GoodIn q_X12_unit_3 (wsV RX12 155 RX12 yX12_closes q_X12_closes_7) := goodIn_app (goodIn_r _ [56, 54, 55, 6] rfl (by decide +kernel)) (goodIn_ca (goodIn_r (.code yX12_closes cX12_closes 2 none :: [.fieldLink RX12 119 "LeftArgumentsModel" "wrong" "I", .code yX12_look cX12_look 1 (some .int), .code yX12_here cX12_here 1 (some .int), .fieldLink RX12 112 "LeftArgumentsModel" "at" "I", .fieldLink RX12 109 "LeftArgumentsModel" "size" "I", .fieldLink RX12 9 "LeftArgumentsModel" "tape" "[I", .initialized RX12, .instanceMethod yX12_here, .selects RX12 yX12_here yX12_here, .methodLink RX12 115 yX12_here, .instanceMethod yX12_look, .selects RX12 yX12_look yX12_look, .methodLink RX12 131 yX12_look, .code yX12_bad cX12_bad 1 none, .instanceMethod yX12_bad, .selects RX12 yX12_bad yX12_bad, .methodLink RX12 128 yX12_bad, .fieldLink RX12 125 "LeftArgumentsModel" "deep" "I"]) [53, 23, 1, 2, 3, 4, 5, 6, 7, 8, 9, 10, 11, 12, 22, 24, 25, 26, 28] rfl (by decide +kernel)) (goodIn_sub (fun _ h => List.mem_cons_of_mem _ (List.mem_append_right _ h)) gwX12))
set_option maxRecDepth 20000 in
theorem g_X12_unit_3_8 : GoodIn q_X12_unit_3 (wsV RX12 155 RX12 yX12_closes q_X12_closes_3) := goodIn_app (goodIn_r _ [56, 54, 55, 6] rfl (by decide +kernel)) (goodIn_ca (goodIn_r (.code yX12_closes cX12_closes 2 none :: [.fieldLink RX12 119 "LeftArgumentsModel" "wrong" "I", .fieldLink RX12 112 "LeftArgumentsModel" "at" "I", .fieldLink RX12 125 "LeftArgumentsModel" "deep" "I"]) [53, 23, 3, 28] rfl (by decide +kernel)) (goodIn_sub (fun _ h => List.mem_cons_of_mem _ (List.mem_append_right _ h)) gwX12))
set_option maxRecDepth 20000 in
theorem g_X12_unit_3_10 : GoodIn q_X12_unit_3 (wsV RX12 168 RX12 yX12_unit q_X12_unit_2) := goodIn_app (goodIn_r _ [68, 66, 67, 6] rfl (by decide +kernel)) (goodIn_ca (goodIn_r (.code yX12_unit cX12_unit 2 none :: [.code yX12_look cX12_look 1 (some .int), .code yX12_here cX12_here 1 (some .int), .fieldLink RX12 112 "LeftArgumentsModel" "at" "I", .fieldLink RX12 109 "LeftArgumentsModel" "size" "I", .fieldLink RX12 9 "LeftArgumentsModel" "tape" "[I", .initialized RX12, .instanceMethod yX12_here, .selects RX12 yX12_here yX12_here, .methodLink RX12 115 yX12_here, .instanceMethod yX12_look, .selects RX12 yX12_look yX12_look, .methodLink RX12 131 yX12_look, .code yX12_sum cX12_sum 2 none, .code yX12_term cX12_term 2 none, .code yX12_atom cX12_atom 2 none, .code yX12_isDigit cX12_isDigit 1 (some .boolean), .static yX12_isDigit, .methodLink RX12 134 yX12_isDigit, .code yX12_letterOf cX12_letterOf 1 (some .int), .static yX12_letterOf, .methodLink RX12 145 yX12_letterOf, .code yX12_bad cX12_bad 1 none, .fieldLink RX12 119 "LeftArgumentsModel" "wrong" "I", .instanceMethod yX12_bad, .selects RX12 yX12_bad yX12_bad, .methodLink RX12 128 yX12_bad, .code yX12_opens cX12_opens 1 none, .fieldLink RX12 125 "LeftArgumentsModel" "deep" "I", .instanceMethod yX12_opens, .selects RX12 yX12_opens yX12_opens, .methodLink RX12 149 yX12_opens, .code yX12_put cX12_put 3 none, .fieldLink RX12 13 "LeftArgumentsModel" "code" "[I", .fieldLink RX12 122 "LeftArgumentsModel" "text" "I", .fieldLink RX12 19 "LeftArgumentsModel" "codes" "[I", .fieldLink RX12 16 "LeftArgumentsModel" "value" "[I", .instanceMethod yX12_put, .selects RX12 yX12_put yX12_put, .methodLink RX12 141 yX12_put, .code yX12_plainNumber cX12_plainNumber 3 (some .int), .instanceMethod yX12_plainNumber, .selects RX12 yX12_plainNumber yX12_plainNumber, .methodLink RX12 138 yX12_plainNumber, .instanceMethod yX12_atom, .selects RX12 yX12_atom yX12_atom, .methodLink RX12 159 yX12_atom, .instanceMethod yX12_term, .selects RX12 yX12_term yX12_term, .methodLink RX12 162 yX12_term, .instanceMethod yX12_sum, .selects RX12 yX12_sum yX12_sum, .methodLink RX12 152 yX12_sum, .code yX12_closes cX12_closes 2 none, .instanceMethod yX12_closes, .selects RX12 yX12_closes yX12_closes, .methodLink RX12 155 yX12_closes, .code yX12_compare cX12_compare 2 none, .code yX12_isSign cX12_isSign 1 (some .boolean), .static yX12_isSign, .methodLink RX12 165 yX12_isSign, .instanceMethod yX12_compare, .selects RX12 yX12_compare yX12_compare, .methodLink RX12 174 yX12_compare, .code yX12_condition cX12_condition 1 none, .code yX12_unit cX12_unit 2 none, .instanceMethod yX12_unit, .selects RX12 yX12_unit yX12_unit, .methodLink RX12 168 yX12_unit, .code yX12_goOnAnd cX12_goOnAnd 1 none, .instanceMethod yX12_goOnAnd, .selects RX12 yX12_goOnAnd yX12_goOnAnd, .methodLink RX12 177 yX12_goOnAnd, .code yX12_goOnOr cX12_goOnOr 1 none, .instanceMethod yX12_goOnOr, .selects RX12 yX12_goOnOr yX12_goOnOr, .methodLink RX12 180 yX12_goOnOr, .instanceMethod yX12_condition, .selects RX12 yX12_condition yX12_condition, .methodLink RX12 171 yX12_condition]) [65, 1, 2, 3, 4, 5, 6, 7, 8, 9, 10, 11, 12, 13, 14, 15, 16, 17, 18, 19, 20, 21, 22, 23, 24, 25, 26, 27, 28, 29, 30, 31, 32, 33, 34, 35, 36, 37, 38, 39, 40, 41, 42, 43, 44, 45, 46, 47, 48, 49, 50, 51, 52, 53, 54, 55, 56, 57, 58, 59, 60, 61, 62, 63, 64, 65, 66, 67, 68, 69, 70, 71, 72, 73, 74, 75, 76, 77, 78, 79] rfl (by decide +kernel)) (goodIn_sub (fun _ h => List.mem_cons_of_mem _ (List.mem_append_right _ h)) gwX12))
set_option maxRecDepth 20000 in
theorem g_X12_unit_3_11 : GoodIn q_X12_unit_3 (wsV RX12 141 RX12 yX12_put q_X12_put) := goodIn_app (goodIn_r _ [39, 37, 38, 6] rfl (by decide +kernel)) (goodIn_ca (goodIn_r (.code yX12_put cX12_put 3 none :: [.fieldLink RX12 13 "LeftArgumentsModel" "code" "[I", .fieldLink RX12 122 "LeftArgumentsModel" "text" "I", .fieldLink RX12 19 "LeftArgumentsModel" "codes" "[I", .fieldLink RX12 16 "LeftArgumentsModel" "value" "[I"]) [32, 33, 34, 35, 36] rfl (by decide +kernel)) (goodIn_sub (fun _ h => List.mem_cons_of_mem _ (List.mem_append_right _ h)) gwX12))
set_option maxHeartbeats 4000000 in
set_option maxRecDepth 100000 in
theorem k_X12_unit_3 (l : Launch) (dC : Nat → ClassId) (dI : Nat → Nat → Nat) (h0 : Nat) (h1 : Nat) (h2 : Nat) (h3 : Nat) (h4 : Nat) (v0 : Int32) (v1 : Int32) (v2 : Int32) (r0 : Nat) (r1 : Nat) (r2 : Nat) (r3 : Nat) (v3 : Int32) (v4 : Int32) (r4 : Nat) (r5 : Nat) (r6 : Nat) (r7 : Nat) (v5 : Int32) (r8 : Nat) (r9 : Nat) (v6 : Int32) (v7 : Int32) (r10 : Nat) (r11 : Nat) (v8 : Int32) (v9 : Int32) (r12 : Nat) (v10 : Int32) (v11 : Int32) (r13 : Nat) (v12 : Int32) (w13 : Int64) (r14 : Nat) (v14 : Int32) (v15 : Int32) (r15 : Nat) (r16 : Nat) (r17 : Nat) (r18 : Nat) (r19 : Nat) (r20 : Nat) (v16 : Int32) (r21 : Nat) (r22 : Nat) (r23 : Nat) (v17 : Int32) (g0 : ClassId) (f18 : Nat → Int32) (g1 : ClassId) (f19 : Nat → Int32) (g2 : ClassId) (f20 : Nat → Int32) (g3 : ClassId) (f21 : Nat → Int32) (i_v1 : 0 ≤ v1.toInt ∧ v1.toInt ≤ 240) (i_v2 : 0 ≤ v2.toInt ∧ v2.toInt ≤ 240) (i_v3 : 0 ≤ v3.toInt ∧ v3.toInt ≤ 4) (i_v4 : 0 ≤ v4.toInt ∧ v4.toInt ≤ 4) (i_v5 : 0 ≤ v5.toInt ∧ v5.toInt ≤ 8) (i_v6 : 0 ≤ v6.toInt ∧ v6.toInt ≤ 8) (i_v7 : 0 ≤ v7.toInt ∧ v7.toInt ≤ 1) (i_v8 : -1 ≤ v8.toInt ∧ v8.toInt ≤ 3) (i_v12 : 0 ≤ v12.toInt ∧ v12.toInt ≤ 40) (i_v16 : 0 ≤ v16.toInt ∧ v16.toInt ≤ 10) (i_v17 : 0 ≤ v17.toInt ∧ v17.toInt ≤ 1) (ia_f18 : (∀ j, 0 ≤ (f18 j).toInt ∧ (f18 j).toInt ≤ 255)) (pp0 : 0 ≤ pm_x f21 v4 ∧ pm_x f21 v4 ≤ v2.toInt) (sz : Nat) : Met l yX12_unit q_X12_unit_3 ({ frames := 18, cells := 0, slots := 0, locals := 369 }) (va_Pc [.ref h0] (fun U => U.heap.size = sz ∧ va_P (dC, dI) vwCl (wd_d906eaf1 h0 v0 h1 v1 v2 (-1) 3 h2 h3 h4 r0 r1 r2 r3 v3 v4 r4 r5 r6 r7 v5 r8 r9 v6 v7 r10 r11 v8 v9 r12 v10 v11 r13 v12 w13 r14 v14 v15 r15 r16 r17 r18 r19 r20 v16 r21 r22 r23 v17 h1 g0 f18 h2 g1 f19 h3 g2 f20 h4 g3 f21) U.heap ∧ va_K (dC, dI) vwCl [(g0, .int), (g1, .int), (g2, .int), (g3, .int)] U ∧ va_D (fun _ => True) (wd_d906eaf1 h0 v0 h1 v1 v2 (-1) 3 h2 h3 h4 r0 r1 r2 r3 v3 v4 r4 r5 r6 r7 v5 r8 r9 v6 v7 r10 r11 v8 v9 r12 v10 v11 r13 v12 w13 r14 v14 v15 r15 r16 r17 r18 r19 r20 v16 r21 r22 r23 v17 h1 g0 f18 h2 g1 f19 h3 g2 f20 h4 g3 f21))) (va_Qv (fun (_ : Unit) => True) (fun (_ : Unit) (t : State) => (∃ (o_h0_3 : Int32) (o_h2 : Nat → Int32) (o_h3 : Nat → Int32) (o_h4 : Nat → Int32), 0 ≤ o_h0_3.toInt ∧ o_h0_3.toInt ≤ 240 ∧ (pm_x o_h4 v4 - pm_x f21 v4 ≤ o_h0_3.toInt - v2.toInt ∧ v2.toInt ≤ o_h0_3.toInt) ∧ (pm_R v4 0 1 10 f19 f20 f21 o_h2 o_h3 o_h4) ∧ (pg_unit f18 v1.toInt 3 v2.toInt = (true, o_h0_3.toInt)) ∧ va_P (dC, dI) vwCl (wd_d906eaf1 h0 v0 h1 v1 o_h0_3 (-1) 3 h2 h3 h4 r0 r1 r2 r3 v3 v4 r4 r5 r6 r7 v5 r8 r9 v6 v7 r10 r11 v8 v9 r12 v10 v11 r13 v12 w13 r14 v14 v15 r15 r16 r17 r18 r19 r20 v16 r21 r22 r23 v17 h1 g0 f18 h2 g1 o_h2 h3 g2 o_h3 h4 g3 o_h4) t.heap ∧ va_K (dC, dI) vwCl [] t ∧ va_D (va_A (wd_d906eaf1 h0 v0 h1 v1 v2 (-1) 3 h2 h3 h4 r0 r1 r2 r3 v3 v4 r4 r5 r6 r7 v5 r8 r9 v6 v7 r10 r11 v8 v9 r12 v10 v11 r13 v12 w13 r14 v14 v15 r15 r16 r17 r18 r19 r20 v16 r21 r22 r23 v17 h1 g0 f18 h2 g1 f19 h3 g2 f20 h4 g3 f21) sz) (wd_d906eaf1 h0 v0 h1 v1 o_h0_3 (-1) 3 h2 h3 h4 r0 r1 r2 r3 v3 v4 r4 r5 r6 r7 v5 r8 r9 v6 v7 r10 r11 v8 v9 r12 v10 v11 r13 v12 w13 r14 v14 v15 r15 r16 r17 r18 r19 r20 v16 r21 r22 r23 v17 h1 g0 f18 h2 g1 o_h2 h3 g2 o_h3 h4 g3 o_h4)) ∨ (∃ (o_h0_3 : Int32) (o_h0_4 : Int32) (o_h0_5 : Int32) (o_h2 : Nat → Int32) (o_h3 : Nat → Int32) (o_h4 : Nat → Int32), 0 ≤ o_h0_3.toInt ∧ o_h0_3.toInt ≤ 243 ∧ 0 ≤ o_h0_4.toInt ∧ o_h0_4.toInt ≤ 240 ∧ (pm_x o_h4 v4 - pm_x f21 v4 ≤ o_h0_3.toInt - v2.toInt ∧ v2.toInt ≤ o_h0_3.toInt) ∧ (pm_F v4 f19 f20 f21 o_h2 o_h3 o_h4) ∧ (pg_unit f18 v1.toInt 3 v2.toInt = (false, o_h0_4.toInt)) ∧ va_P (dC, dI) vwCl (wd_d906eaf1 h0 v0 h1 v1 o_h0_3 o_h0_4 o_h0_5 h2 h3 h4 r0 r1 r2 r3 v3 v4 r4 r5 r6 r7 v5 r8 r9 v6 v7 r10 r11 v8 v9 r12 v10 v11 r13 v12 w13 r14 v14 v15 r15 r16 r17 r18 r19 r20 v16 r21 r22 r23 v17 h1 g0 f18 h2 g1 o_h2 h3 g2 o_h3 h4 g3 o_h4) t.heap ∧ va_K (dC, dI) vwCl [] t ∧ va_D (va_A (wd_d906eaf1 h0 v0 h1 v1 v2 (-1) 3 h2 h3 h4 r0 r1 r2 r3 v3 v4 r4 r5 r6 r7 v5 r8 r9 v6 v7 r10 r11 v8 v9 r12 v10 v11 r13 v12 w13 r14 v14 v15 r15 r16 r17 r18 r19 r20 v16 r21 r22 r23 v17 h1 g0 f18 h2 g1 f19 h3 g2 f20 h4 g3 f21) sz) (wd_d906eaf1 h0 v0 h1 v1 o_h0_3 o_h0_4 o_h0_5 h2 h3 h4 r0 r1 r2 r3 v3 v4 r4 r5 r6 r7 v5 r8 r9 v6 v7 r10 r11 v8 v9 r12 v10 v11 r13 v12 w13 r14 v14 v15 r15 r16 r17 r18 r19 r20 v16 r21 r22 r23 v17 h1 g0 f18 h2 g1 o_h2 h3 g2 o_h3 h4 g3 o_h4))) (va_A (wd_d906eaf1 h0 v0 h1 v1 v2 (-1) 3 h2 h3 h4 r0 r1 r2 r3 v3 v4 r4 r5 r6 r7 v5 r8 r9 v6 v7 r10 r11 v8 v9 r12 v10 v11 r13 v12 w13 r14 v14 v15 r15 r16 r17 r18 r19 r20 v16 r21 r22 r23 v17 h1 g0 f18 h2 g1 f19 h3 g2 f20 h4 g3 f21) sz)) 0 0 (va_A (wd_d906eaf1 h0 v0 h1 v1 v2 (-1) 3 h2 h3 h4 r0 r1 r2 r3 v3 v4 r4 r5 r6 r7 v5 r8 r9 v6 v7 r10 r11 v8 v9 r12 v10 v11 r13 v12 w13 r14 v14 v15 r15 r16 r17 r18 r19 r20 v16 r21 r22 r23 v17 h1 g0 f18 h2 g1 f19 h3 g2 f20 h4 g3 f21) sz) := by
  refine Met.ofW (cc := cX12_unit) (maxL := 2) (ret := none) (by decide) rfl ?_
  intro p e s m args below meth c s₁ B hml hv
  obtain ⟨i_v1a, i_v1b⟩ := i_v1
  obtain ⟨i_v2a, i_v2b⟩ := i_v2
  obtain ⟨i_v3a, i_v3b⟩ := i_v3
  obtain ⟨i_v4a, i_v4b⟩ := i_v4
  obtain ⟨i_v5a, i_v5b⟩ := i_v5
  obtain ⟨i_v6a, i_v6b⟩ := i_v6
  obtain ⟨i_v7a, i_v7b⟩ := i_v7
  obtain ⟨i_v8a, i_v8b⟩ := i_v8
  obtain ⟨i_v12a, i_v12b⟩ := i_v12
  obtain ⟨i_v16a, i_v16b⟩ := i_v16
  obtain ⟨i_v17a, i_v17b⟩ := i_v17
  obtain ⟨rfl, hsz, hP, hK, hD0⟩ := hv
  have hx := B.exec
  have hb := B.bytes
  have hr := B.returns
  have hts := atoms_spec (ws := q_X12_unit_3) B.pre
  have hown : s.vm.findClass RX12 = some m.cls := findClass_of_methodNamed B.named
  have hlocks := B.notSynchronized
  subst hsz
  have hD := hD0.self (sz := s.heap.size)
  generalize hAe : va_A (wd_d906eaf1 h0 v0 h1 v1 v2 (-1) 3 h2 h3 h4 r0 r1 r2 r3 v3 v4 r4 r5 r6 r7 v5 r8 r9 v6 v7 r10 r11 v8 v9 r12 v10 v11 r13 v12 w13 r14 v14 v15 r15 r16 r17 r18 r19 r20 v16 r21 r22 r23 v17 h1 g0 f18 h2 g1 f19 h3 g2 f20 h4 g3 f21) s.heap.size = A at hD ⊢
  have hA : ∀ q : Nat, s.heap.size ≤ q → A q := fun q h => by rw [← hAe]; exact Or.inr h
  have hS : va_S A s.heap s.heap [] := va_S.rf
  generalize hQ : (MQ below _ _ s 0 0 A) = Q
  have hl := lv_entry ([.ref h0]) (n := 2) (Nat.le_of_ble_eq_true rfl)
  rw [lg_entry_eq]
  generalize (lg_sl ([.ref h0]) ++ List.replicate (2 - (lg_sl ([.ref h0])).length) Slot.unset).toArray = ls at hl ⊢
  have hl : lv_has ls 2 [(0, .ref h0)] := hl
  obtain ⟨H, hH⟩ : ∃ H : Heap, H = s.heap := ⟨_, rfl⟩
  obtain ⟨locs, hlocs⟩ : ∃ y : List Loc, y = [] := ⟨_, rfl⟩
  have hS : va_S A s.heap H locs := by rw [hH, hlocs]; exact va_S.rf
  have hP : va_P (dC, dI) vwCl (wd_d906eaf1 h0 v0 h1 v1 v2 (-1) 3 h2 h3 h4 r0 r1 r2 r3 v3 v4 r4 r5 r6 r7 v5 r8 r9 v6 v7 r10 r11 v8 v9 r12 v10 v11 r13 v12 w13 r14 v14 v15 r15 r16 r17 r18 r19 r20 v16 r21 r22 r23 v17 h1 g0 f18 h2 g1 f19 h3 g2 f20 h4 g3 f21) H := by rw [hH]; exact hP
  rw [← hH, ← hlocs]
  have px1 := pp0.1; have px2 := pp0.2
  have hgR := pm_R.refl (L := 0) v4 f19 f20 f21 px1
  have hgF := hgR.1
  refine lv_aload_n hx hb dX12_unit_0 rfl (lv_at hl 0 rfl) ?_
  have hPc := hP.sub (ws' := (wd_f4cd022e h0 v0 h1 v1 v2 (-1) 3 h2 h3 h4 r0 r1 r2 r3 v3 v4 r4 r5 r6 r7 v5 r8 r9 v6 v7 r10 r11 v8 v9 r12 v10 v11 r13 v12 w13 r14 v14 v15 r15 r16 r17 r18 r19 r20 v16 r21 r22 r23 v17 h1 g0 f18)) [0, 1] rfl
  have hDc := hD.sub (ws' := (wd_f4cd022e h0 v0 h1 v1 v2 (-1) 3 h2 h3 h4 r0 r1 r2 r3 v3 v4 r4 r5 r6 r7 v5 r8 r9 v6 v7 r10 r11 v8 v9 r12 v10 v11 r13 v12 w13 r14 v14 v15 r15 r16 r17 r18 r19 r20 v16 r21 r22 r23 v17 h1 g0 f18)) [0, 1] (by decide) rfl
  have hKc := hK.sub (tys' := [(g0, .int)]) [0] rfl
  have hFc := va_free (wc := (wd_f4cd022e h0 v0 h1 v1 v2 (-1) 3 h2 h3 h4 r0 r1 r2 r3 v3 v4 r4 r5 r6 r7 v5 r8 r9 v6 v7 r10 r11 v8 v9 r12 v10 v11 r13 v12 w13 r14 v14 v15 r15 r16 r17 r18 r19 r20 v16 r21 r22 r23 v17 h1 g0 f18)) hD hS hA [0, 1] rfl
  refine va_calli (va_runV (As := []) (rest := []) ⟨hx, hb, hml, hown, hts⟩ (k_X12_look l dC dI h0 h1 v0 v1 v2 ((-1)) 3 h2 h3 h4 r0 r1 r2 r3 v3 v4 r4 r5 r6 r7 v5 r8 r9 v6 v7 r10 r11 v8 v9 r12 v10 v11 r13 v12 w13 r14 v14 v15 r15 r16 r17 r18 r19 r20 v16 r21 r22 r23 v17 g0 f18 ⟨i_v1a, i_v1b⟩ ⟨i_v2a, i_v2b⟩ ⟨i_v3a, i_v3b⟩ ⟨i_v4a, i_v4b⟩ ⟨i_v5a, i_v5b⟩ ⟨i_v6a, i_v6b⟩ ⟨i_v7a, i_v7b⟩ ⟨i_v8a, i_v8b⟩ ⟨i_v12a, i_v12b⟩ ⟨i_v16a, i_v16b⟩ ⟨i_v17a, i_v17b⟩ ia_f18 H.size) (cwV 0 hts g_X12_unit_3_0 rfl rfl rfl (by decide +kernel) ⟨Nat.le_of_ble_eq_true rfl, Nat.le_of_ble_eq_true rfl⟩) (pv_PV12 hPc hKc hDc (q0 := 0) rfl) rfl rfl hl.1 rfl (lv_room (Nat.le_of_ble_eq_true rfl)) dX12_unit_1 ⟨Nat.le_of_ble_eq_true rfl, Nat.le_of_ble_eq_true rfl⟩) hS (fun q _ h => hFc q h) hFc (fun ra1 u t H1 locs ht hvm hwra1 hB hz1 hk1 hS => ?_)
  try rw [hwra1] at hB
  have hkra1_0 : (((-1) : Int32)).toInt = -1 := by decide
  have hkra1_1 : ((3 : Int32)).toInt = 3 := by decide
  rcases hB with hB | hB
  · skip
    obtain ⟨x2, oa_x2, ob_x2, pt0_ra1, pt1_ra1, pt2_ra1, pt3_ra1, pt4_ra1, pt5_ra1, pt6_ra1, hP1, hK1, hD1⟩ := hB
    rw [ht] at hP1
    obtain ⟨hP2, hD2⟩ := va_join (wr := (wd_ad0642e8 h2 g1 f19 h3 g2 f20 h4 g3 f21)) (w1 := (wd_f4cd022e h0 v0 h1 v1 x2 (-1) 3 h2 h3 h4 r0 r1 r2 r3 v3 v4 r4 r5 r6 r7 v5 r8 r9 v6 v7 r10 r11 v8 v9 r12 v10 v11 r13 v12 w13 r14 v14 v15 r15 r16 r17 r18 r19 r20 v16 r21 r22 r23 v17 h1 g0 f18)) hP hD [0, 1] [2, 3, 4] rfl rfl (by decide) (by decide) hk1 hFc hP1 hD1
    clear hP hD hPc hDc hKc hFc hP1 hK1 hD1 hk1 hz1
    generalize H1 = H at hP2 hS ⊢
    have hP := hP2.sub (ws' := (wd_d906eaf1 h0 v0 h1 v1 x2 (-1) 3 h2 h3 h4 r0 r1 r2 r3 v3 v4 r4 r5 r6 r7 v5 r8 r9 v6 v7 r10 r11 v8 v9 r12 v10 v11 r13 v12 w13 r14 v14 v15 r15 r16 r17 r18 r19 r20 v16 r21 r22 r23 v17 h1 g0 f18 h2 g1 f19 h3 g2 f20 h4 g3 f21)) [3, 4, 0, 1, 2] rfl
    have hD := hD2.sub (ws' := (wd_d906eaf1 h0 v0 h1 v1 x2 (-1) 3 h2 h3 h4 r0 r1 r2 r3 v3 v4 r4 r5 r6 r7 v5 r8 r9 v6 v7 r10 r11 v8 v9 r12 v10 v11 r13 v12 w13 r14 v14 v15 r15 r16 r17 r18 r19 r20 v16 r21 r22 r23 v17 h1 g0 f18 h2 g1 f19 h3 g2 f20 h4 g3 f21)) [3, 4, 0, 1, 2] (by decide) rfl
    clear hP2 hD2
    obtain rfl : ra1 = ((-1) : Int32) := pv_cs (by decide) pt0_ra1 pt1_ra1
    refine lv_istore_n (lv' := [(1, .int (-1)), (0, .ref h0)]) hx hb dX12_unit_4 rfl hl (by decide) rfl (fun ls hl => ?_)
    refine lv_iload_n hx hb dX12_unit_5 rfl (lv_at hl 0 rfl) ?_
    refine lv_bipush (v := 33) hx hb dX12_unit_6 (by decide) ?_
    refine lv_icmp_ne (tgt := 47) hx hb dX12_unit_8 (by decide) (fun _ => ?_) (fun c => absurd c (by decide))
    refine lv_iload_n hx hb dX12_unit_47 rfl (lv_at hl 0 rfl) ?_
    refine lv_bipush (v := 40) hx hb dX12_unit_48 (by decide) ?_
    refine lv_icmp_ne (tgt := 78) hx hb dX12_unit_50 (by decide) (fun _ => ?_) (fun c => absurd c (by decide))
    refine lv_aload_n hx hb dX12_unit_78 rfl (lv_at hl 1 rfl) ?_
    have hPc := hP.sub (ws' := (wd_d906eaf1 h0 v0 h1 v1 x2 (-1) 3 h2 h3 h4 r0 r1 r2 r3 v3 v4 r4 r5 r6 r7 v5 r8 r9 v6 v7 r10 r11 v8 v9 r12 v10 v11 r13 v12 w13 r14 v14 v15 r15 r16 r17 r18 r19 r20 v16 r21 r22 r23 v17 h1 g0 f18 h2 g1 f19 h3 g2 f20 h4 g3 f21)) [0, 1, 2, 3, 4] rfl
    have hDc := hD.sub (ws' := (wd_d906eaf1 h0 v0 h1 v1 x2 (-1) 3 h2 h3 h4 r0 r1 r2 r3 v3 v4 r4 r5 r6 r7 v5 r8 r9 v6 v7 r10 r11 v8 v9 r12 v10 v11 r13 v12 w13 r14 v14 v15 r15 r16 r17 r18 r19 r20 v16 r21 r22 r23 v17 h1 g0 f18 h2 g1 f19 h3 g2 f20 h4 g3 f21)) [0, 1, 2, 3, 4] (by decide) rfl
    have hKc := hK.sub (tys' := [(g0, .int), (g1, .int), (g2, .int), (g3, .int)]) [0, 1, 2, 3] rfl
    have hFc := va_free (wc := (wd_d906eaf1 h0 v0 h1 v1 x2 (-1) 3 h2 h3 h4 r0 r1 r2 r3 v3 v4 r4 r5 r6 r7 v5 r8 r9 v6 v7 r10 r11 v8 v9 r12 v10 v11 r13 v12 w13 r14 v14 v15 r15 r16 r17 r18 r19 r20 v16 r21 r22 r23 v17 h1 g0 f18 h2 g1 f19 h3 g2 f20 h4 g3 f21)) hD hS hA [0, 1, 2, 3, 4] rfl
    refine va_callv (va_runV (As := []) (rest := []) ⟨hx, hb, hml, hown, hts⟩ (k_X12_sum_3 l dC dI h0 h1 h2 h3 h4 v0 v1 x2 r0 r1 r2 r3 v3 v4 r4 r5 r6 r7 v5 r8 r9 v6 v7 r10 r11 v8 v9 r12 v10 v11 r13 v12 w13 r14 v14 v15 r15 r16 r17 r18 r19 r20 v16 r21 r22 r23 v17 g0 f18 g1 f19 g2 f20 g3 f21 ⟨i_v1a, i_v1b⟩ ⟨oa_x2, ob_x2⟩ ⟨i_v3a, i_v3b⟩ ⟨i_v4a, i_v4b⟩ ⟨i_v5a, i_v5b⟩ ⟨i_v6a, i_v6b⟩ ⟨i_v7a, i_v7b⟩ ⟨i_v8a, i_v8b⟩ ⟨i_v12a, i_v12b⟩ ⟨i_v16a, i_v16b⟩ ⟨i_v17a, i_v17b⟩ ia_f18 (by constructor <;> omega) H.size) (cwV 0 hts g_X12_unit_3_1 rfl rfl rfl (by decide +kernel) ⟨Nat.le_of_ble_eq_true rfl, Nat.le_of_ble_eq_true rfl⟩) (pv_PV12 hPc hKc hDc (q0 := 0) rfl) rfl rfl hl.1 rfl (lv_room (Nat.le_of_ble_eq_true rfl)) dX12_unit_79 ⟨Nat.le_of_ble_eq_true rfl, Nat.le_of_ble_eq_true rfl⟩) hS (fun q _ h => hFc q h) hFc (fun u t H1 locs ht hvm hwra3 hB hz1 hk1 hS => ?_)
    rcases hB with hB | hB
    · skip
      obtain ⟨x4, fn5, fn6, fn7, oa_x4, ob_x4, pt0_ra3, pt1_ra3, pt2_ra3, hP1, hK1, hD1⟩ := hB
      rw [ht] at hP1
      obtain ⟨hP2, hD2⟩ := va_join (wr := []) (w1 := (wd_d906eaf1 h0 v0 h1 v1 x4 (-1) 3 h2 h3 h4 r0 r1 r2 r3 v3 v4 r4 r5 r6 r7 v5 r8 r9 v6 v7 r10 r11 v8 v9 r12 v10 v11 r13 v12 w13 r14 v14 v15 r15 r16 r17 r18 r19 r20 v16 r21 r22 r23 v17 h1 g0 f18 h2 g1 fn5 h3 g2 fn6 h4 g3 fn7)) hP hD [0, 1, 2, 3, 4] [] rfl rfl (by decide) (by decide) hk1 hFc hP1 hD1
      clear hP hD hPc hDc hKc hFc hP1 hK1 hD1 hk1 hz1
      generalize H1 = H at hP2 hS ⊢
      have hP : va_P (dC, dI) vwCl (wd_d906eaf1 h0 v0 h1 v1 x4 (-1) 3 h2 h3 h4 r0 r1 r2 r3 v3 v4 r4 r5 r6 r7 v5 r8 r9 v6 v7 r10 r11 v8 v9 r12 v10 v11 r13 v12 w13 r14 v14 v15 r15 r16 r17 r18 r19 r20 v16 r21 r22 r23 v17 h1 g0 f18 h2 g1 fn5 h3 g2 fn6 h4 g3 fn7) H := hP2
      have hD : va_D A (wd_d906eaf1 h0 v0 h1 v1 x4 (-1) 3 h2 h3 h4 r0 r1 r2 r3 v3 v4 r4 r5 r6 r7 v5 r8 r9 v6 v7 r10 r11 v8 v9 r12 v10 v11 r13 v12 w13 r14 v14 v15 r15 r16 r17 r18 r19 r20 v16 r21 r22 r23 v17 h1 g0 f18 h2 g1 fn5 h3 g2 fn6 h4 g3 fn7) := hD2
      clear hP2 hD2
      have hgR := hgR.app (k' := 1) (D := 9) pt1_ra3 (by decide) (by decide) (by decide) (by decide)
      have hgF := hgR.1
      have hxl := hgF.1
      refine lv_aload_n hx hb dX12_unit_82 rfl (lv_at hl 1 rfl) ?_
      refine va_get (D := (dC, dI)) (ci := 12) (v := .int (-1)) (C := RX12) (T := TX12) (N := 48) hx hb hts (fun _ h => List.mem_cons_of_mem _ (List.mem_append_right _ h)) hown hK hP 0 rfl rfl 4 (by decide) (hts (.fieldLink RX12 119 "LeftArgumentsModel" "wrong" "I") (List.mem_cons_of_mem _ (List.mem_append_left _ (List.mem_of_getElem? (i := 22) rfl)))) (fun _ h9 => h9) rfl dX12_unit_83 ?_
      refine lv_iconst (v := (-1)) hx hb dX12_unit_86 (by decide) ?_
      refine lv_icmp_ne (tgt := 94) hx hb dX12_unit_87 (by decide) (fun c => absurd (by decide) c) (fun _ => ?_)
      refine lv_aload_n hx hb dX12_unit_90 rfl (lv_at hl 1 rfl) ?_
      have hPc := hP.sub (ws' := (wd_d906eaf1 h0 v0 h1 v1 x4 (-1) 3 h2 h3 h4 r0 r1 r2 r3 v3 v4 r4 r5 r6 r7 v5 r8 r9 v6 v7 r10 r11 v8 v9 r12 v10 v11 r13 v12 w13 r14 v14 v15 r15 r16 r17 r18 r19 r20 v16 r21 r22 r23 v17 h1 g0 f18 h2 g1 fn5 h3 g2 fn6 h4 g3 fn7)) [0, 1, 2, 3, 4] rfl
      have hDc := hD.sub (ws' := (wd_d906eaf1 h0 v0 h1 v1 x4 (-1) 3 h2 h3 h4 r0 r1 r2 r3 v3 v4 r4 r5 r6 r7 v5 r8 r9 v6 v7 r10 r11 v8 v9 r12 v10 v11 r13 v12 w13 r14 v14 v15 r15 r16 r17 r18 r19 r20 v16 r21 r22 r23 v17 h1 g0 f18 h2 g1 fn5 h3 g2 fn6 h4 g3 fn7)) [0, 1, 2, 3, 4] (by decide) rfl
      have hKc := hK.sub (tys' := [(g0, .int), (g1, .int), (g2, .int), (g3, .int)]) [0, 1, 2, 3] rfl
      have hFc := va_free (wc := (wd_d906eaf1 h0 v0 h1 v1 x4 (-1) 3 h2 h3 h4 r0 r1 r2 r3 v3 v4 r4 r5 r6 r7 v5 r8 r9 v6 v7 r10 r11 v8 v9 r12 v10 v11 r13 v12 w13 r14 v14 v15 r15 r16 r17 r18 r19 r20 v16 r21 r22 r23 v17 h1 g0 f18 h2 g1 fn5 h3 g2 fn6 h4 g3 fn7)) hD hS hA [0, 1, 2, 3, 4] rfl
      refine va_callv (va_runV (As := []) (rest := []) ⟨hx, hb, hml, hown, hts⟩ (k_X12_compare_3 l dC dI h0 h1 h2 h3 h4 v0 v1 x4 r0 r1 r2 r3 v3 v4 r4 r5 r6 r7 v5 r8 r9 v6 v7 r10 r11 v8 v9 r12 v10 v11 r13 v12 w13 r14 v14 v15 r15 r16 r17 r18 r19 r20 v16 r21 r22 r23 v17 g0 f18 g1 fn5 g2 fn6 g3 fn7 ⟨i_v1a, i_v1b⟩ ⟨oa_x4, ob_x4⟩ ⟨i_v3a, i_v3b⟩ ⟨i_v4a, i_v4b⟩ ⟨i_v5a, i_v5b⟩ ⟨i_v6a, i_v6b⟩ ⟨i_v7a, i_v7b⟩ ⟨i_v8a, i_v8b⟩ ⟨i_v12a, i_v12b⟩ ⟨i_v16a, i_v16b⟩ ⟨i_v17a, i_v17b⟩ ia_f18 (by constructor <;> omega) H.size) (cwV 0 hts g_X12_unit_3_2 rfl rfl rfl (by decide +kernel) ⟨Nat.le_of_ble_eq_true rfl, Nat.le_of_ble_eq_true rfl⟩) (pv_PV12 hPc hKc hDc (q0 := 0) rfl) rfl rfl hl.1 rfl (lv_room (Nat.le_of_ble_eq_true rfl)) dX12_unit_91 ⟨Nat.le_of_ble_eq_true rfl, Nat.le_of_ble_eq_true rfl⟩) hS (fun q _ h => hFc q h) hFc (fun u t H1 locs ht hvm hwra8 hB hz1 hk1 hS => ?_)
      rcases hB with hB | hB
      · skip
        obtain ⟨x9, fn10, fn11, fn12, oa_x9, ob_x9, pt0_ra8, pt1_ra8, pt2_ra8, hP1, hK1, hD1⟩ := hB
        rw [ht] at hP1
        obtain ⟨hP2, hD2⟩ := va_join (wr := []) (w1 := (wd_d906eaf1 h0 v0 h1 v1 x9 (-1) 3 h2 h3 h4 r0 r1 r2 r3 v3 v4 r4 r5 r6 r7 v5 r8 r9 v6 v7 r10 r11 v8 v9 r12 v10 v11 r13 v12 w13 r14 v14 v15 r15 r16 r17 r18 r19 r20 v16 r21 r22 r23 v17 h1 g0 f18 h2 g1 fn10 h3 g2 fn11 h4 g3 fn12)) hP hD [0, 1, 2, 3, 4] [] rfl rfl (by decide) (by decide) hk1 hFc hP1 hD1
        clear hP hD hPc hDc hKc hFc hP1 hK1 hD1 hk1 hz1
        generalize H1 = H at hP2 hS ⊢
        have hP : va_P (dC, dI) vwCl (wd_d906eaf1 h0 v0 h1 v1 x9 (-1) 3 h2 h3 h4 r0 r1 r2 r3 v3 v4 r4 r5 r6 r7 v5 r8 r9 v6 v7 r10 r11 v8 v9 r12 v10 v11 r13 v12 w13 r14 v14 v15 r15 r16 r17 r18 r19 r20 v16 r21 r22 r23 v17 h1 g0 f18 h2 g1 fn10 h3 g2 fn11 h4 g3 fn12) H := hP2
        have hD : va_D A (wd_d906eaf1 h0 v0 h1 v1 x9 (-1) 3 h2 h3 h4 r0 r1 r2 r3 v3 v4 r4 r5 r6 r7 v5 r8 r9 v6 v7 r10 r11 v8 v9 r12 v10 v11 r13 v12 w13 r14 v14 v15 r15 r16 r17 r18 r19 r20 v16 r21 r22 r23 v17 h1 g0 f18 h2 g1 fn10 h3 g2 fn11 h4 g3 fn12) := hD2
        clear hP2 hD2
        have hgR := hgR.app (k' := 1) (D := 10) pt1_ra8 (by decide) (by decide) (by decide) (by decide)
        have hgF := hgR.1
        have hxl := hgF.1
        subst hQ
        have hP9 := hP.sub (ws' := (wd_d906eaf1 h0 v0 h1 v1 x9 (-1) 3 h2 h3 h4 r0 r1 r2 r3 v3 v4 r4 r5 r6 r7 v5 r8 r9 v6 v7 r10 r11 v8 v9 r12 v10 v11 r13 v12 w13 r14 v14 v15 r15 r16 r17 r18 r19 r20 v16 r21 r22 r23 v17 h1 g0 f18 h2 g1 fn10 h3 g2 fn11 h4 g3 fn12)) [0, 1, 2, 3, 4] rfl
        have hD9 := hD.sub (ws' := (wd_d906eaf1 h0 v0 h1 v1 x9 (-1) 3 h2 h3 h4 r0 r1 r2 r3 v3 v4 r4 r5 r6 r7 v5 r8 r9 v6 v7 r10 r11 v8 v9 r12 v10 v11 r13 v12 w13 r14 v14 v15 r15 r16 r17 r18 r19 r20 v16 r21 r22 r23 v17 h1 g0 f18 h2 g1 fn10 h3 g2 fn11 h4 g3 fn12)) [0, 1, 2, 3, 4] (by decide) rfl
        have hK9 := hK.sub (tys' := []) [] rfl
        exact W.vret hx hb hr (fun t ht hW => ⟨⟨(), rfl, trivial, Or.inl ⟨x9, fn10, fn11, fn12, oa_x9, ob_x9, by constructor <;> omega, by exact hgR.mono (by decide), by show pg_unitF f18 v1.toInt 3 true (pg_unit f18 v1.toInt 2) (pg_con f18 v1.toInt (pg_unit f18 v1.toInt 2)) _ = _; first | (apply pg_unitF.not <;> first | assumption | omega) | (apply pg_unitF.par1 <;> first | assumption | omega) | (apply pg_unitF.par0 <;> first | assumption | omega) | (apply pg_unitF.deep <;> first | assumption | omega) | (apply pg_unitF.sum1 <;> first | assumption | omega) | (apply pg_unitF.sum0 <;> first | assumption | omega), by rw [ht]; exact hP9, va_K.moved hW.alike hK9, hD9⟩⟩, hS.F ht⟩) hS.2.2 dX12_unit_94
      · skip
        obtain ⟨x13, x14, x15, fn16, fn17, fn18, oa_x13, ob_x13, oa_x14, ob_x14, pt0_ra8, pt1_ra8, pt2_ra8, hP1, hK1, hD1⟩ := hB
        rw [ht] at hP1
        obtain ⟨hP2, hD2⟩ := va_join (wr := []) (w1 := (wd_d906eaf1 h0 v0 h1 v1 x13 x14 x15 h2 h3 h4 r0 r1 r2 r3 v3 v4 r4 r5 r6 r7 v5 r8 r9 v6 v7 r10 r11 v8 v9 r12 v10 v11 r13 v12 w13 r14 v14 v15 r15 r16 r17 r18 r19 r20 v16 r21 r22 r23 v17 h1 g0 f18 h2 g1 fn16 h3 g2 fn17 h4 g3 fn18)) hP hD [0, 1, 2, 3, 4] [] rfl rfl (by decide) (by decide) hk1 hFc hP1 hD1
        clear hP hD hPc hDc hKc hFc hP1 hK1 hD1 hk1 hz1
        generalize H1 = H at hP2 hS ⊢
        have hP : va_P (dC, dI) vwCl (wd_d906eaf1 h0 v0 h1 v1 x13 x14 x15 h2 h3 h4 r0 r1 r2 r3 v3 v4 r4 r5 r6 r7 v5 r8 r9 v6 v7 r10 r11 v8 v9 r12 v10 v11 r13 v12 w13 r14 v14 v15 r15 r16 r17 r18 r19 r20 v16 r21 r22 r23 v17 h1 g0 f18 h2 g1 fn16 h3 g2 fn17 h4 g3 fn18) H := hP2
        have hD : va_D A (wd_d906eaf1 h0 v0 h1 v1 x13 x14 x15 h2 h3 h4 r0 r1 r2 r3 v3 v4 r4 r5 r6 r7 v5 r8 r9 v6 v7 r10 r11 v8 v9 r12 v10 v11 r13 v12 w13 r14 v14 v15 r15 r16 r17 r18 r19 r20 v16 r21 r22 r23 v17 h1 g0 f18 h2 g1 fn16 h3 g2 fn17 h4 g3 fn18) := hD2
        clear hP2 hD2
        have hgF := hgF.app pt1_ra8
        have hxl := hgF.1
        subst hQ
        have hP9 := hP.sub (ws' := (wd_d906eaf1 h0 v0 h1 v1 x13 x14 x15 h2 h3 h4 r0 r1 r2 r3 v3 v4 r4 r5 r6 r7 v5 r8 r9 v6 v7 r10 r11 v8 v9 r12 v10 v11 r13 v12 w13 r14 v14 v15 r15 r16 r17 r18 r19 r20 v16 r21 r22 r23 v17 h1 g0 f18 h2 g1 fn16 h3 g2 fn17 h4 g3 fn18)) [0, 1, 2, 3, 4] rfl
        have hD9 := hD.sub (ws' := (wd_d906eaf1 h0 v0 h1 v1 x13 x14 x15 h2 h3 h4 r0 r1 r2 r3 v3 v4 r4 r5 r6 r7 v5 r8 r9 v6 v7 r10 r11 v8 v9 r12 v10 v11 r13 v12 w13 r14 v14 v15 r15 r16 r17 r18 r19 r20 v16 r21 r22 r23 v17 h1 g0 f18 h2 g1 fn16 h3 g2 fn17 h4 g3 fn18)) [0, 1, 2, 3, 4] (by decide) rfl
        have hK9 := hK.sub (tys' := []) [] rfl
        exact W.vret hx hb hr (fun t ht hW => ⟨⟨(), rfl, trivial, Or.inr (⟨x13, x14, x15, fn16, fn17, fn18, oa_x13, ob_x13, oa_x14, ob_x14, by constructor <;> omega, by exact hgF, by show pg_unitF f18 v1.toInt 3 true (pg_unit f18 v1.toInt 2) (pg_con f18 v1.toInt (pg_unit f18 v1.toInt 2)) _ = _; first | (apply pg_unitF.not <;> first | assumption | omega) | (apply pg_unitF.par1 <;> first | assumption | omega) | (apply pg_unitF.par0 <;> first | assumption | omega) | (apply pg_unitF.deep <;> first | assumption | omega) | (apply pg_unitF.sum1 <;> first | assumption | omega) | (apply pg_unitF.sum0 <;> first | assumption | omega), by rw [ht]; exact hP9, va_K.moved hW.alike hK9, hD9⟩)⟩, hS.F ht⟩) hS.2.2 dX12_unit_94
    · skip
      obtain ⟨x19, x20, x21, fn22, fn23, fn24, oa_x19, ob_x19, oa_x20, ob_x20, pt0_ra3, pt1_ra3, pt2_ra3, hP1, hK1, hD1⟩ := hB
      rw [ht] at hP1
      obtain ⟨hP2, hD2⟩ := va_join (wr := []) (w1 := (wd_d906eaf1 h0 v0 h1 v1 x19 x20 x21 h2 h3 h4 r0 r1 r2 r3 v3 v4 r4 r5 r6 r7 v5 r8 r9 v6 v7 r10 r11 v8 v9 r12 v10 v11 r13 v12 w13 r14 v14 v15 r15 r16 r17 r18 r19 r20 v16 r21 r22 r23 v17 h1 g0 f18 h2 g1 fn22 h3 g2 fn23 h4 g3 fn24)) hP hD [0, 1, 2, 3, 4] [] rfl rfl (by decide) (by decide) hk1 hFc hP1 hD1
      clear hP hD hPc hDc hKc hFc hP1 hK1 hD1 hk1 hz1
      generalize H1 = H at hP2 hS ⊢
      have hP : va_P (dC, dI) vwCl (wd_d906eaf1 h0 v0 h1 v1 x19 x20 x21 h2 h3 h4 r0 r1 r2 r3 v3 v4 r4 r5 r6 r7 v5 r8 r9 v6 v7 r10 r11 v8 v9 r12 v10 v11 r13 v12 w13 r14 v14 v15 r15 r16 r17 r18 r19 r20 v16 r21 r22 r23 v17 h1 g0 f18 h2 g1 fn22 h3 g2 fn23 h4 g3 fn24) H := hP2
      have hD : va_D A (wd_d906eaf1 h0 v0 h1 v1 x19 x20 x21 h2 h3 h4 r0 r1 r2 r3 v3 v4 r4 r5 r6 r7 v5 r8 r9 v6 v7 r10 r11 v8 v9 r12 v10 v11 r13 v12 w13 r14 v14 v15 r15 r16 r17 r18 r19 r20 v16 r21 r22 r23 v17 h1 g0 f18 h2 g1 fn22 h3 g2 fn23 h4 g3 fn24) := hD2
      clear hP2 hD2
      have hgF := hgF.app pt1_ra3
      have hxl := hgF.1
      refine lv_aload_n hx hb dX12_unit_82 rfl (lv_at hl 1 rfl) ?_
      refine va_get (D := (dC, dI)) (ci := 12) (v := .int x20) (C := RX12) (T := TX12) (N := 48) hx hb hts (fun _ h => List.mem_cons_of_mem _ (List.mem_append_right _ h)) hown hK hP 0 rfl rfl 4 (by decide) (hts (.fieldLink RX12 119 "LeftArgumentsModel" "wrong" "I") (List.mem_cons_of_mem _ (List.mem_append_left _ (List.mem_of_getElem? (i := 22) rfl)))) (fun _ h9 => h9) rfl dX12_unit_83 ?_
      refine lv_iconst (v := (-1)) hx hb dX12_unit_86 (by decide) ?_
      refine lv_icmp_ne (tgt := 94) hx hb dX12_unit_87 (by decide) (fun _ => ?_) (fun c25 => by exfalso; have fc25 : x20.toInt = (-1) := congrArg Int32.toInt c25; omega)
      subst hQ
      have hP9 := hP.sub (ws' := (wd_d906eaf1 h0 v0 h1 v1 x19 x20 x21 h2 h3 h4 r0 r1 r2 r3 v3 v4 r4 r5 r6 r7 v5 r8 r9 v6 v7 r10 r11 v8 v9 r12 v10 v11 r13 v12 w13 r14 v14 v15 r15 r16 r17 r18 r19 r20 v16 r21 r22 r23 v17 h1 g0 f18 h2 g1 fn22 h3 g2 fn23 h4 g3 fn24)) [0, 1, 2, 3, 4] rfl
      have hD9 := hD.sub (ws' := (wd_d906eaf1 h0 v0 h1 v1 x19 x20 x21 h2 h3 h4 r0 r1 r2 r3 v3 v4 r4 r5 r6 r7 v5 r8 r9 v6 v7 r10 r11 v8 v9 r12 v10 v11 r13 v12 w13 r14 v14 v15 r15 r16 r17 r18 r19 r20 v16 r21 r22 r23 v17 h1 g0 f18 h2 g1 fn22 h3 g2 fn23 h4 g3 fn24)) [0, 1, 2, 3, 4] (by decide) rfl
      have hK9 := hK.sub (tys' := []) [] rfl
      exact W.vret hx hb hr (fun t ht hW => ⟨⟨(), rfl, trivial, Or.inr (⟨x19, x20, x21, fn22, fn23, fn24, oa_x19, ob_x19, oa_x20, ob_x20, by constructor <;> omega, by exact hgF, by show pg_unitF f18 v1.toInt 3 true (pg_unit f18 v1.toInt 2) (pg_con f18 v1.toInt (pg_unit f18 v1.toInt 2)) _ = _; first | (apply pg_unitF.not <;> first | assumption | omega) | (apply pg_unitF.par1 <;> first | assumption | omega) | (apply pg_unitF.par0 <;> first | assumption | omega) | (apply pg_unitF.deep <;> first | assumption | omega) | (apply pg_unitF.sum1 <;> first | assumption | omega) | (apply pg_unitF.sum0 <;> first | assumption | omega), by rw [ht]; exact hP9, va_K.moved hW.alike hK9, hD9⟩)⟩, hS.F ht⟩) hS.2.2 dX12_unit_94
  · skip
    obtain ⟨x26, oa_x26, ob_x26, pt0_ra1, pt1_ra1, pt2_ra1, pt3_ra1, pt4_ra1, pt5_ra1, pt6_ra1, pt7_ra1, hP1, hK1, hD1⟩ := hB
    rw [ht] at hP1
    obtain ⟨hP2, hD2⟩ := va_join (wr := (wd_ad0642e8 h2 g1 f19 h3 g2 f20 h4 g3 f21)) (w1 := (wd_f4cd022e h0 v0 h1 v1 x26 (-1) 3 h2 h3 h4 r0 r1 r2 r3 v3 v4 r4 r5 r6 r7 v5 r8 r9 v6 v7 r10 r11 v8 v9 r12 v10 v11 r13 v12 w13 r14 v14 v15 r15 r16 r17 r18 r19 r20 v16 r21 r22 r23 v17 h1 g0 f18)) hP hD [0, 1] [2, 3, 4] rfl rfl (by decide) (by decide) hk1 hFc hP1 hD1
    clear hP hD hPc hDc hKc hFc hP1 hK1 hD1 hk1 hz1
    generalize H1 = H at hP2 hS ⊢
    have hP := hP2.sub (ws' := (wd_d906eaf1 h0 v0 h1 v1 x26 (-1) 3 h2 h3 h4 r0 r1 r2 r3 v3 v4 r4 r5 r6 r7 v5 r8 r9 v6 v7 r10 r11 v8 v9 r12 v10 v11 r13 v12 w13 r14 v14 v15 r15 r16 r17 r18 r19 r20 v16 r21 r22 r23 v17 h1 g0 f18 h2 g1 f19 h3 g2 f20 h4 g3 f21)) [3, 4, 0, 1, 2] rfl
    have hD := hD2.sub (ws' := (wd_d906eaf1 h0 v0 h1 v1 x26 (-1) 3 h2 h3 h4 r0 r1 r2 r3 v3 v4 r4 r5 r6 r7 v5 r8 r9 v6 v7 r10 r11 v8 v9 r12 v10 v11 r13 v12 w13 r14 v14 v15 r15 r16 r17 r18 r19 r20 v16 r21 r22 r23 v17 h1 g0 f18 h2 g1 f19 h3 g2 f20 h4 g3 f21)) [3, 4, 0, 1, 2] (by decide) rfl
    clear hP2 hD2
    refine lv_istore_n (lv' := [(1, .int ra1), (0, .ref h0)]) hx hb dX12_unit_4 rfl hl (by decide) rfl (fun ls hl => ?_)
    refine lv_iload_n hx hb dX12_unit_5 rfl (lv_at hl 0 rfl) ?_
    refine lv_bipush (v := 33) hx hb dX12_unit_6 (by decide) ?_
    refine lv_icmp_ne (tgt := 47) hx hb dX12_unit_8 (by decide) (fun c27 => ?_) (fun c27 => ?_)
    · skip
      have fc27 : ¬ (ra1.toInt = 33) := fun h9 => c27 (Int32.toInt_inj.mp h9)
      refine lv_iload_n hx hb dX12_unit_47 rfl (lv_at hl 0 rfl) ?_
      refine lv_bipush (v := 40) hx hb dX12_unit_48 (by decide) ?_
      refine lv_icmp_ne (tgt := 78) hx hb dX12_unit_50 (by decide) (fun c28 => ?_) (fun c28 => ?_)
      · skip
        have fc28 : ¬ (ra1.toInt = 40) := fun h9 => c28 (Int32.toInt_inj.mp h9)
        refine lv_aload_n hx hb dX12_unit_78 rfl (lv_at hl 1 rfl) ?_
        have hPc := hP.sub (ws' := (wd_d906eaf1 h0 v0 h1 v1 x26 (-1) 3 h2 h3 h4 r0 r1 r2 r3 v3 v4 r4 r5 r6 r7 v5 r8 r9 v6 v7 r10 r11 v8 v9 r12 v10 v11 r13 v12 w13 r14 v14 v15 r15 r16 r17 r18 r19 r20 v16 r21 r22 r23 v17 h1 g0 f18 h2 g1 f19 h3 g2 f20 h4 g3 f21)) [0, 1, 2, 3, 4] rfl
        have hDc := hD.sub (ws' := (wd_d906eaf1 h0 v0 h1 v1 x26 (-1) 3 h2 h3 h4 r0 r1 r2 r3 v3 v4 r4 r5 r6 r7 v5 r8 r9 v6 v7 r10 r11 v8 v9 r12 v10 v11 r13 v12 w13 r14 v14 v15 r15 r16 r17 r18 r19 r20 v16 r21 r22 r23 v17 h1 g0 f18 h2 g1 f19 h3 g2 f20 h4 g3 f21)) [0, 1, 2, 3, 4] (by decide) rfl
        have hKc := hK.sub (tys' := [(g0, .int), (g1, .int), (g2, .int), (g3, .int)]) [0, 1, 2, 3] rfl
        have hFc := va_free (wc := (wd_d906eaf1 h0 v0 h1 v1 x26 (-1) 3 h2 h3 h4 r0 r1 r2 r3 v3 v4 r4 r5 r6 r7 v5 r8 r9 v6 v7 r10 r11 v8 v9 r12 v10 v11 r13 v12 w13 r14 v14 v15 r15 r16 r17 r18 r19 r20 v16 r21 r22 r23 v17 h1 g0 f18 h2 g1 f19 h3 g2 f20 h4 g3 f21)) hD hS hA [0, 1, 2, 3, 4] rfl
        refine va_callv (va_runV (As := []) (rest := []) ⟨hx, hb, hml, hown, hts⟩ (k_X12_sum_3 l dC dI h0 h1 h2 h3 h4 v0 v1 x26 r0 r1 r2 r3 v3 v4 r4 r5 r6 r7 v5 r8 r9 v6 v7 r10 r11 v8 v9 r12 v10 v11 r13 v12 w13 r14 v14 v15 r15 r16 r17 r18 r19 r20 v16 r21 r22 r23 v17 g0 f18 g1 f19 g2 f20 g3 f21 ⟨i_v1a, i_v1b⟩ ⟨oa_x26, by first | omega | decide⟩ ⟨i_v3a, i_v3b⟩ ⟨i_v4a, i_v4b⟩ ⟨i_v5a, i_v5b⟩ ⟨i_v6a, i_v6b⟩ ⟨i_v7a, i_v7b⟩ ⟨i_v8a, i_v8b⟩ ⟨i_v12a, i_v12b⟩ ⟨i_v16a, i_v16b⟩ ⟨i_v17a, i_v17b⟩ ia_f18 (by constructor <;> omega) H.size) (cwV 0 hts g_X12_unit_3_1 rfl rfl rfl (by decide +kernel) ⟨Nat.le_of_ble_eq_true rfl, Nat.le_of_ble_eq_true rfl⟩) (pv_PV12 hPc hKc hDc (q0 := 0) rfl) rfl rfl hl.1 rfl (lv_room (Nat.le_of_ble_eq_true rfl)) dX12_unit_79 ⟨Nat.le_of_ble_eq_true rfl, Nat.le_of_ble_eq_true rfl⟩) hS (fun q _ h => hFc q h) hFc (fun u t H1 locs ht hvm hwra29 hB hz1 hk1 hS => ?_)
        rcases hB with hB | hB
        · skip
          obtain ⟨x30, fn31, fn32, fn33, oa_x30, ob_x30, pt0_ra29, pt1_ra29, pt2_ra29, hP1, hK1, hD1⟩ := hB
          rw [ht] at hP1
          obtain ⟨hP2, hD2⟩ := va_join (wr := []) (w1 := (wd_d906eaf1 h0 v0 h1 v1 x30 (-1) 3 h2 h3 h4 r0 r1 r2 r3 v3 v4 r4 r5 r6 r7 v5 r8 r9 v6 v7 r10 r11 v8 v9 r12 v10 v11 r13 v12 w13 r14 v14 v15 r15 r16 r17 r18 r19 r20 v16 r21 r22 r23 v17 h1 g0 f18 h2 g1 fn31 h3 g2 fn32 h4 g3 fn33)) hP hD [0, 1, 2, 3, 4] [] rfl rfl (by decide) (by decide) hk1 hFc hP1 hD1
          clear hP hD hPc hDc hKc hFc hP1 hK1 hD1 hk1 hz1
          generalize H1 = H at hP2 hS ⊢
          have hP : va_P (dC, dI) vwCl (wd_d906eaf1 h0 v0 h1 v1 x30 (-1) 3 h2 h3 h4 r0 r1 r2 r3 v3 v4 r4 r5 r6 r7 v5 r8 r9 v6 v7 r10 r11 v8 v9 r12 v10 v11 r13 v12 w13 r14 v14 v15 r15 r16 r17 r18 r19 r20 v16 r21 r22 r23 v17 h1 g0 f18 h2 g1 fn31 h3 g2 fn32 h4 g3 fn33) H := hP2
          have hD : va_D A (wd_d906eaf1 h0 v0 h1 v1 x30 (-1) 3 h2 h3 h4 r0 r1 r2 r3 v3 v4 r4 r5 r6 r7 v5 r8 r9 v6 v7 r10 r11 v8 v9 r12 v10 v11 r13 v12 w13 r14 v14 v15 r15 r16 r17 r18 r19 r20 v16 r21 r22 r23 v17 h1 g0 f18 h2 g1 fn31 h3 g2 fn32 h4 g3 fn33) := hD2
          clear hP2 hD2
          have hgR := hgR.app (k' := 1) (D := 9) pt1_ra29 (by decide) (by decide) (by decide) (by decide)
          have hgF := hgR.1
          have hxl := hgF.1
          refine lv_aload_n hx hb dX12_unit_82 rfl (lv_at hl 1 rfl) ?_
          refine va_get (D := (dC, dI)) (ci := 12) (v := .int (-1)) (C := RX12) (T := TX12) (N := 48) hx hb hts (fun _ h => List.mem_cons_of_mem _ (List.mem_append_right _ h)) hown hK hP 0 rfl rfl 4 (by decide) (hts (.fieldLink RX12 119 "LeftArgumentsModel" "wrong" "I") (List.mem_cons_of_mem _ (List.mem_append_left _ (List.mem_of_getElem? (i := 22) rfl)))) (fun _ h9 => h9) rfl dX12_unit_83 ?_
          refine lv_iconst (v := (-1)) hx hb dX12_unit_86 (by decide) ?_
          refine lv_icmp_ne (tgt := 94) hx hb dX12_unit_87 (by decide) (fun c => absurd (by decide) c) (fun _ => ?_)
          refine lv_aload_n hx hb dX12_unit_90 rfl (lv_at hl 1 rfl) ?_
          have hPc := hP.sub (ws' := (wd_d906eaf1 h0 v0 h1 v1 x30 (-1) 3 h2 h3 h4 r0 r1 r2 r3 v3 v4 r4 r5 r6 r7 v5 r8 r9 v6 v7 r10 r11 v8 v9 r12 v10 v11 r13 v12 w13 r14 v14 v15 r15 r16 r17 r18 r19 r20 v16 r21 r22 r23 v17 h1 g0 f18 h2 g1 fn31 h3 g2 fn32 h4 g3 fn33)) [0, 1, 2, 3, 4] rfl
          have hDc := hD.sub (ws' := (wd_d906eaf1 h0 v0 h1 v1 x30 (-1) 3 h2 h3 h4 r0 r1 r2 r3 v3 v4 r4 r5 r6 r7 v5 r8 r9 v6 v7 r10 r11 v8 v9 r12 v10 v11 r13 v12 w13 r14 v14 v15 r15 r16 r17 r18 r19 r20 v16 r21 r22 r23 v17 h1 g0 f18 h2 g1 fn31 h3 g2 fn32 h4 g3 fn33)) [0, 1, 2, 3, 4] (by decide) rfl
          have hKc := hK.sub (tys' := [(g0, .int), (g1, .int), (g2, .int), (g3, .int)]) [0, 1, 2, 3] rfl
          have hFc := va_free (wc := (wd_d906eaf1 h0 v0 h1 v1 x30 (-1) 3 h2 h3 h4 r0 r1 r2 r3 v3 v4 r4 r5 r6 r7 v5 r8 r9 v6 v7 r10 r11 v8 v9 r12 v10 v11 r13 v12 w13 r14 v14 v15 r15 r16 r17 r18 r19 r20 v16 r21 r22 r23 v17 h1 g0 f18 h2 g1 fn31 h3 g2 fn32 h4 g3 fn33)) hD hS hA [0, 1, 2, 3, 4] rfl
          refine va_callv (va_runV (As := []) (rest := []) ⟨hx, hb, hml, hown, hts⟩ (k_X12_compare_3 l dC dI h0 h1 h2 h3 h4 v0 v1 x30 r0 r1 r2 r3 v3 v4 r4 r5 r6 r7 v5 r8 r9 v6 v7 r10 r11 v8 v9 r12 v10 v11 r13 v12 w13 r14 v14 v15 r15 r16 r17 r18 r19 r20 v16 r21 r22 r23 v17 g0 f18 g1 fn31 g2 fn32 g3 fn33 ⟨i_v1a, i_v1b⟩ ⟨oa_x30, ob_x30⟩ ⟨i_v3a, i_v3b⟩ ⟨i_v4a, i_v4b⟩ ⟨i_v5a, i_v5b⟩ ⟨i_v6a, i_v6b⟩ ⟨i_v7a, i_v7b⟩ ⟨i_v8a, i_v8b⟩ ⟨i_v12a, i_v12b⟩ ⟨i_v16a, i_v16b⟩ ⟨i_v17a, i_v17b⟩ ia_f18 (by constructor <;> omega) H.size) (cwV 0 hts g_X12_unit_3_2 rfl rfl rfl (by decide +kernel) ⟨Nat.le_of_ble_eq_true rfl, Nat.le_of_ble_eq_true rfl⟩) (pv_PV12 hPc hKc hDc (q0 := 0) rfl) rfl rfl hl.1 rfl (lv_room (Nat.le_of_ble_eq_true rfl)) dX12_unit_91 ⟨Nat.le_of_ble_eq_true rfl, Nat.le_of_ble_eq_true rfl⟩) hS (fun q _ h => hFc q h) hFc (fun u t H1 locs ht hvm hwra34 hB hz1 hk1 hS => ?_)
          rcases hB with hB | hB
          · skip
            obtain ⟨x35, fn36, fn37, fn38, oa_x35, ob_x35, pt0_ra34, pt1_ra34, pt2_ra34, hP1, hK1, hD1⟩ := hB
            rw [ht] at hP1
            obtain ⟨hP2, hD2⟩ := va_join (wr := []) (w1 := (wd_d906eaf1 h0 v0 h1 v1 x35 (-1) 3 h2 h3 h4 r0 r1 r2 r3 v3 v4 r4 r5 r6 r7 v5 r8 r9 v6 v7 r10 r11 v8 v9 r12 v10 v11 r13 v12 w13 r14 v14 v15 r15 r16 r17 r18 r19 r20 v16 r21 r22 r23 v17 h1 g0 f18 h2 g1 fn36 h3 g2 fn37 h4 g3 fn38)) hP hD [0, 1, 2, 3, 4] [] rfl rfl (by decide) (by decide) hk1 hFc hP1 hD1
            clear hP hD hPc hDc hKc hFc hP1 hK1 hD1 hk1 hz1
            generalize H1 = H at hP2 hS ⊢
            have hP : va_P (dC, dI) vwCl (wd_d906eaf1 h0 v0 h1 v1 x35 (-1) 3 h2 h3 h4 r0 r1 r2 r3 v3 v4 r4 r5 r6 r7 v5 r8 r9 v6 v7 r10 r11 v8 v9 r12 v10 v11 r13 v12 w13 r14 v14 v15 r15 r16 r17 r18 r19 r20 v16 r21 r22 r23 v17 h1 g0 f18 h2 g1 fn36 h3 g2 fn37 h4 g3 fn38) H := hP2
            have hD : va_D A (wd_d906eaf1 h0 v0 h1 v1 x35 (-1) 3 h2 h3 h4 r0 r1 r2 r3 v3 v4 r4 r5 r6 r7 v5 r8 r9 v6 v7 r10 r11 v8 v9 r12 v10 v11 r13 v12 w13 r14 v14 v15 r15 r16 r17 r18 r19 r20 v16 r21 r22 r23 v17 h1 g0 f18 h2 g1 fn36 h3 g2 fn37 h4 g3 fn38) := hD2
            clear hP2 hD2
            have hgR := hgR.app (k' := 1) (D := 10) pt1_ra34 (by decide) (by decide) (by decide) (by decide)
            have hgF := hgR.1
            have hxl := hgF.1
            subst hQ
            have hP9 := hP.sub (ws' := (wd_d906eaf1 h0 v0 h1 v1 x35 (-1) 3 h2 h3 h4 r0 r1 r2 r3 v3 v4 r4 r5 r6 r7 v5 r8 r9 v6 v7 r10 r11 v8 v9 r12 v10 v11 r13 v12 w13 r14 v14 v15 r15 r16 r17 r18 r19 r20 v16 r21 r22 r23 v17 h1 g0 f18 h2 g1 fn36 h3 g2 fn37 h4 g3 fn38)) [0, 1, 2, 3, 4] rfl
            have hD9 := hD.sub (ws' := (wd_d906eaf1 h0 v0 h1 v1 x35 (-1) 3 h2 h3 h4 r0 r1 r2 r3 v3 v4 r4 r5 r6 r7 v5 r8 r9 v6 v7 r10 r11 v8 v9 r12 v10 v11 r13 v12 w13 r14 v14 v15 r15 r16 r17 r18 r19 r20 v16 r21 r22 r23 v17 h1 g0 f18 h2 g1 fn36 h3 g2 fn37 h4 g3 fn38)) [0, 1, 2, 3, 4] (by decide) rfl
            have hK9 := hK.sub (tys' := []) [] rfl
            exact W.vret hx hb hr (fun t ht hW => ⟨⟨(), rfl, trivial, Or.inl ⟨x35, fn36, fn37, fn38, oa_x35, ob_x35, by constructor <;> omega, by exact hgR.mono (by decide), by show pg_unitF f18 v1.toInt 3 true (pg_unit f18 v1.toInt 2) (pg_con f18 v1.toInt (pg_unit f18 v1.toInt 2)) _ = _; first | (apply pg_unitF.not <;> first | assumption | omega) | (apply pg_unitF.par1 <;> first | assumption | omega) | (apply pg_unitF.par0 <;> first | assumption | omega) | (apply pg_unitF.deep <;> first | assumption | omega) | (apply pg_unitF.sum1 <;> first | assumption | omega) | (apply pg_unitF.sum0 <;> first | assumption | omega), by rw [ht]; exact hP9, va_K.moved hW.alike hK9, hD9⟩⟩, hS.F ht⟩) hS.2.2 dX12_unit_94
          · skip
            obtain ⟨x39, x40, x41, fn42, fn43, fn44, oa_x39, ob_x39, oa_x40, ob_x40, pt0_ra34, pt1_ra34, pt2_ra34, hP1, hK1, hD1⟩ := hB
            rw [ht] at hP1
            obtain ⟨hP2, hD2⟩ := va_join (wr := []) (w1 := (wd_d906eaf1 h0 v0 h1 v1 x39 x40 x41 h2 h3 h4 r0 r1 r2 r3 v3 v4 r4 r5 r6 r7 v5 r8 r9 v6 v7 r10 r11 v8 v9 r12 v10 v11 r13 v12 w13 r14 v14 v15 r15 r16 r17 r18 r19 r20 v16 r21 r22 r23 v17 h1 g0 f18 h2 g1 fn42 h3 g2 fn43 h4 g3 fn44)) hP hD [0, 1, 2, 3, 4] [] rfl rfl (by decide) (by decide) hk1 hFc hP1 hD1
            clear hP hD hPc hDc hKc hFc hP1 hK1 hD1 hk1 hz1
            generalize H1 = H at hP2 hS ⊢
            have hP : va_P (dC, dI) vwCl (wd_d906eaf1 h0 v0 h1 v1 x39 x40 x41 h2 h3 h4 r0 r1 r2 r3 v3 v4 r4 r5 r6 r7 v5 r8 r9 v6 v7 r10 r11 v8 v9 r12 v10 v11 r13 v12 w13 r14 v14 v15 r15 r16 r17 r18 r19 r20 v16 r21 r22 r23 v17 h1 g0 f18 h2 g1 fn42 h3 g2 fn43 h4 g3 fn44) H := hP2
            have hD : va_D A (wd_d906eaf1 h0 v0 h1 v1 x39 x40 x41 h2 h3 h4 r0 r1 r2 r3 v3 v4 r4 r5 r6 r7 v5 r8 r9 v6 v7 r10 r11 v8 v9 r12 v10 v11 r13 v12 w13 r14 v14 v15 r15 r16 r17 r18 r19 r20 v16 r21 r22 r23 v17 h1 g0 f18 h2 g1 fn42 h3 g2 fn43 h4 g3 fn44) := hD2
            clear hP2 hD2
            have hgF := hgF.app pt1_ra34
            have hxl := hgF.1
            subst hQ
            have hP9 := hP.sub (ws' := (wd_d906eaf1 h0 v0 h1 v1 x39 x40 x41 h2 h3 h4 r0 r1 r2 r3 v3 v4 r4 r5 r6 r7 v5 r8 r9 v6 v7 r10 r11 v8 v9 r12 v10 v11 r13 v12 w13 r14 v14 v15 r15 r16 r17 r18 r19 r20 v16 r21 r22 r23 v17 h1 g0 f18 h2 g1 fn42 h3 g2 fn43 h4 g3 fn44)) [0, 1, 2, 3, 4] rfl
            have hD9 := hD.sub (ws' := (wd_d906eaf1 h0 v0 h1 v1 x39 x40 x41 h2 h3 h4 r0 r1 r2 r3 v3 v4 r4 r5 r6 r7 v5 r8 r9 v6 v7 r10 r11 v8 v9 r12 v10 v11 r13 v12 w13 r14 v14 v15 r15 r16 r17 r18 r19 r20 v16 r21 r22 r23 v17 h1 g0 f18 h2 g1 fn42 h3 g2 fn43 h4 g3 fn44)) [0, 1, 2, 3, 4] (by decide) rfl
            have hK9 := hK.sub (tys' := []) [] rfl
            exact W.vret hx hb hr (fun t ht hW => ⟨⟨(), rfl, trivial, Or.inr (⟨x39, x40, x41, fn42, fn43, fn44, oa_x39, ob_x39, oa_x40, ob_x40, by constructor <;> omega, by exact hgF, by show pg_unitF f18 v1.toInt 3 true (pg_unit f18 v1.toInt 2) (pg_con f18 v1.toInt (pg_unit f18 v1.toInt 2)) _ = _; first | (apply pg_unitF.not <;> first | assumption | omega) | (apply pg_unitF.par1 <;> first | assumption | omega) | (apply pg_unitF.par0 <;> first | assumption | omega) | (apply pg_unitF.deep <;> first | assumption | omega) | (apply pg_unitF.sum1 <;> first | assumption | omega) | (apply pg_unitF.sum0 <;> first | assumption | omega), by rw [ht]; exact hP9, va_K.moved hW.alike hK9, hD9⟩)⟩, hS.F ht⟩) hS.2.2 dX12_unit_94
        · skip
          obtain ⟨x45, x46, x47, fn48, fn49, fn50, oa_x45, ob_x45, oa_x46, ob_x46, pt0_ra29, pt1_ra29, pt2_ra29, hP1, hK1, hD1⟩ := hB
          rw [ht] at hP1
          obtain ⟨hP2, hD2⟩ := va_join (wr := []) (w1 := (wd_d906eaf1 h0 v0 h1 v1 x45 x46 x47 h2 h3 h4 r0 r1 r2 r3 v3 v4 r4 r5 r6 r7 v5 r8 r9 v6 v7 r10 r11 v8 v9 r12 v10 v11 r13 v12 w13 r14 v14 v15 r15 r16 r17 r18 r19 r20 v16 r21 r22 r23 v17 h1 g0 f18 h2 g1 fn48 h3 g2 fn49 h4 g3 fn50)) hP hD [0, 1, 2, 3, 4] [] rfl rfl (by decide) (by decide) hk1 hFc hP1 hD1
          clear hP hD hPc hDc hKc hFc hP1 hK1 hD1 hk1 hz1
          generalize H1 = H at hP2 hS ⊢
          have hP : va_P (dC, dI) vwCl (wd_d906eaf1 h0 v0 h1 v1 x45 x46 x47 h2 h3 h4 r0 r1 r2 r3 v3 v4 r4 r5 r6 r7 v5 r8 r9 v6 v7 r10 r11 v8 v9 r12 v10 v11 r13 v12 w13 r14 v14 v15 r15 r16 r17 r18 r19 r20 v16 r21 r22 r23 v17 h1 g0 f18 h2 g1 fn48 h3 g2 fn49 h4 g3 fn50) H := hP2
          have hD : va_D A (wd_d906eaf1 h0 v0 h1 v1 x45 x46 x47 h2 h3 h4 r0 r1 r2 r3 v3 v4 r4 r5 r6 r7 v5 r8 r9 v6 v7 r10 r11 v8 v9 r12 v10 v11 r13 v12 w13 r14 v14 v15 r15 r16 r17 r18 r19 r20 v16 r21 r22 r23 v17 h1 g0 f18 h2 g1 fn48 h3 g2 fn49 h4 g3 fn50) := hD2
          clear hP2 hD2
          have hgF := hgF.app pt1_ra29
          have hxl := hgF.1
          refine lv_aload_n hx hb dX12_unit_82 rfl (lv_at hl 1 rfl) ?_
          refine va_get (D := (dC, dI)) (ci := 12) (v := .int x46) (C := RX12) (T := TX12) (N := 48) hx hb hts (fun _ h => List.mem_cons_of_mem _ (List.mem_append_right _ h)) hown hK hP 0 rfl rfl 4 (by decide) (hts (.fieldLink RX12 119 "LeftArgumentsModel" "wrong" "I") (List.mem_cons_of_mem _ (List.mem_append_left _ (List.mem_of_getElem? (i := 22) rfl)))) (fun _ h9 => h9) rfl dX12_unit_83 ?_
          refine lv_iconst (v := (-1)) hx hb dX12_unit_86 (by decide) ?_
          refine lv_icmp_ne (tgt := 94) hx hb dX12_unit_87 (by decide) (fun _ => ?_) (fun c51 => by exfalso; have fc51 : x46.toInt = (-1) := congrArg Int32.toInt c51; omega)
          subst hQ
          have hP9 := hP.sub (ws' := (wd_d906eaf1 h0 v0 h1 v1 x45 x46 x47 h2 h3 h4 r0 r1 r2 r3 v3 v4 r4 r5 r6 r7 v5 r8 r9 v6 v7 r10 r11 v8 v9 r12 v10 v11 r13 v12 w13 r14 v14 v15 r15 r16 r17 r18 r19 r20 v16 r21 r22 r23 v17 h1 g0 f18 h2 g1 fn48 h3 g2 fn49 h4 g3 fn50)) [0, 1, 2, 3, 4] rfl
          have hD9 := hD.sub (ws' := (wd_d906eaf1 h0 v0 h1 v1 x45 x46 x47 h2 h3 h4 r0 r1 r2 r3 v3 v4 r4 r5 r6 r7 v5 r8 r9 v6 v7 r10 r11 v8 v9 r12 v10 v11 r13 v12 w13 r14 v14 v15 r15 r16 r17 r18 r19 r20 v16 r21 r22 r23 v17 h1 g0 f18 h2 g1 fn48 h3 g2 fn49 h4 g3 fn50)) [0, 1, 2, 3, 4] (by decide) rfl
          have hK9 := hK.sub (tys' := []) [] rfl
          exact W.vret hx hb hr (fun t ht hW => ⟨⟨(), rfl, trivial, Or.inr (⟨x45, x46, x47, fn48, fn49, fn50, oa_x45, ob_x45, oa_x46, ob_x46, by constructor <;> omega, by exact hgF, by show pg_unitF f18 v1.toInt 3 true (pg_unit f18 v1.toInt 2) (pg_con f18 v1.toInt (pg_unit f18 v1.toInt 2)) _ = _; first | (apply pg_unitF.not <;> first | assumption | omega) | (apply pg_unitF.par1 <;> first | assumption | omega) | (apply pg_unitF.par0 <;> first | assumption | omega) | (apply pg_unitF.deep <;> first | assumption | omega) | (apply pg_unitF.sum1 <;> first | assumption | omega) | (apply pg_unitF.sum0 <;> first | assumption | omega), by rw [ht]; exact hP9, va_K.moved hW.alike hK9, hD9⟩)⟩, hS.F ht⟩) hS.2.2 dX12_unit_94
      · skip
        have fc28 : ra1.toInt = 40 := congrArg Int32.toInt c28
        refine lv_aload_n hx hb dX12_unit_53 rfl (lv_at hl 1 rfl) ?_
        have hPc := hP.sub (ws' := (wd_171f232f h0 v0 h1 v1 x26 (-1) 3 h2 h3 h4 r0 r1 r2 r3 v3 v4 r4 r5 r6 r7 v5 r8 r9 v6 v7 r10 r11 v8 v9 r12 v10 v11 r13 v12 w13 r14 v14 v15 r15 r16 r17 r18 r19 r20 v16 r21 r22 r23 v17)) [0] rfl
        have hDc := hD.sub (ws' := (wd_171f232f h0 v0 h1 v1 x26 (-1) 3 h2 h3 h4 r0 r1 r2 r3 v3 v4 r4 r5 r6 r7 v5 r8 r9 v6 v7 r10 r11 v8 v9 r12 v10 v11 r13 v12 w13 r14 v14 v15 r15 r16 r17 r18 r19 r20 v16 r21 r22 r23 v17)) [0] (by decide) rfl
        have hKc := hK.sub (tys' := []) [] rfl
        have hFc := va_free (wc := (wd_171f232f h0 v0 h1 v1 x26 (-1) 3 h2 h3 h4 r0 r1 r2 r3 v3 v4 r4 r5 r6 r7 v5 r8 r9 v6 v7 r10 r11 v8 v9 r12 v10 v11 r13 v12 w13 r14 v14 v15 r15 r16 r17 r18 r19 r20 v16 r21 r22 r23 v17)) hD hS hA [0] rfl
        refine va_callv (va_runV (As := []) (rest := []) ⟨hx, hb, hml, hown, hts⟩ (k_X12_opens_3 l dC dI h0 v0 h1 v1 x26 h2 h3 h4 r0 r1 r2 r3 v3 v4 r4 r5 r6 r7 v5 r8 r9 v6 v7 r10 r11 v8 v9 r12 v10 v11 r13 v12 w13 r14 v14 v15 r15 r16 r17 r18 r19 r20 v16 r21 r22 r23 v17 ⟨i_v1a, i_v1b⟩ ⟨oa_x26, ob_x26⟩ ⟨i_v3a, i_v3b⟩ ⟨i_v4a, i_v4b⟩ ⟨i_v5a, i_v5b⟩ ⟨i_v6a, i_v6b⟩ ⟨i_v7a, i_v7b⟩ ⟨i_v8a, i_v8b⟩ ⟨i_v12a, i_v12b⟩ ⟨i_v16a, i_v16b⟩ ⟨i_v17a, i_v17b⟩ H.size) (cwV 0 hts g_X12_unit_3_5 rfl rfl rfl (by decide +kernel) ⟨Nat.le_of_ble_eq_true rfl, Nat.le_of_ble_eq_true rfl⟩) (pv_PV12 hPc hKc hDc (q0 := 0) rfl) rfl rfl hl.1 rfl (lv_room (Nat.le_of_ble_eq_true rfl)) dX12_unit_54 ⟨Nat.le_of_ble_eq_true rfl, Nat.le_of_ble_eq_true rfl⟩) hS (fun q _ h => hFc q h) hFc (fun u t H1 locs ht hvm hwra52 hB hz1 hk1 hS => ?_)
        obtain ⟨x53, oa_x53, ob_x53, pt0_ra52, hP1, hK1, hD1⟩ := hB
        rw [ht] at hP1
        obtain ⟨hP2, hD2⟩ := va_join (wr := (wd_bfe486e6 h1 g0 f18 h2 g1 f19 h3 g2 f20 h4 g3 f21)) (w1 := (wd_171f232f h0 v0 h1 v1 x53 (-1) 4 h2 h3 h4 r0 r1 r2 r3 v3 v4 r4 r5 r6 r7 v5 r8 r9 v6 v7 r10 r11 v8 v9 r12 v10 v11 r13 v12 w13 r14 v14 v15 r15 r16 r17 r18 r19 r20 v16 r21 r22 r23 v17)) hP hD [0] [1, 2, 3, 4] rfl rfl (by decide) (by decide) hk1 hFc hP1 hD1
        clear hP hD hPc hDc hKc hFc hP1 hK1 hD1 hk1 hz1
        generalize H1 = H at hP2 hS ⊢
        have hP := hP2.sub (ws' := (wd_d906eaf1 h0 v0 h1 v1 x53 (-1) 4 h2 h3 h4 r0 r1 r2 r3 v3 v4 r4 r5 r6 r7 v5 r8 r9 v6 v7 r10 r11 v8 v9 r12 v10 v11 r13 v12 w13 r14 v14 v15 r15 r16 r17 r18 r19 r20 v16 r21 r22 r23 v17 h1 g0 f18 h2 g1 f19 h3 g2 f20 h4 g3 f21)) [4, 0, 1, 2, 3] rfl
        have hD := hD2.sub (ws' := (wd_d906eaf1 h0 v0 h1 v1 x53 (-1) 4 h2 h3 h4 r0 r1 r2 r3 v3 v4 r4 r5 r6 r7 v5 r8 r9 v6 v7 r10 r11 v8 v9 r12 v10 v11 r13 v12 w13 r14 v14 v15 r15 r16 r17 r18 r19 r20 v16 r21 r22 r23 v17 h1 g0 f18 h2 g1 f19 h3 g2 f20 h4 g3 f21)) [4, 0, 1, 2, 3] (by decide) rfl
        clear hP2 hD2
        refine lv_aload_n hx hb dX12_unit_57 rfl (lv_at hl 1 rfl) ?_
        refine va_get (D := (dC, dI)) (ci := 12) (v := .int (-1)) (C := RX12) (T := TX12) (N := 48) hx hb hts (fun _ h => List.mem_cons_of_mem _ (List.mem_append_right _ h)) hown hK hP 0 rfl rfl 4 (by decide) (hts (.fieldLink RX12 119 "LeftArgumentsModel" "wrong" "I") (List.mem_cons_of_mem _ (List.mem_append_left _ (List.mem_of_getElem? (i := 22) rfl)))) (fun _ h9 => h9) rfl dX12_unit_58 ?_
        refine lv_iconst (v := (-1)) hx hb dX12_unit_61 (by decide) ?_
        refine lv_icmp_ne (tgt := 94) hx hb dX12_unit_62 (by decide) (fun c => absurd (by decide) c) (fun _ => ?_)
        refine lv_aload_n hx hb dX12_unit_65 rfl (lv_at hl 1 rfl) ?_
        have hPc := hP.sub (ws' := (wd_d906eaf1 h0 v0 h1 v1 x53 (-1) 4 h2 h3 h4 r0 r1 r2 r3 v3 v4 r4 r5 r6 r7 v5 r8 r9 v6 v7 r10 r11 v8 v9 r12 v10 v11 r13 v12 w13 r14 v14 v15 r15 r16 r17 r18 r19 r20 v16 r21 r22 r23 v17 h1 g0 f18 h2 g1 f19 h3 g2 f20 h4 g3 f21)) [0, 1, 2, 3, 4] rfl
        have hDc := hD.sub (ws' := (wd_d906eaf1 h0 v0 h1 v1 x53 (-1) 4 h2 h3 h4 r0 r1 r2 r3 v3 v4 r4 r5 r6 r7 v5 r8 r9 v6 v7 r10 r11 v8 v9 r12 v10 v11 r13 v12 w13 r14 v14 v15 r15 r16 r17 r18 r19 r20 v16 r21 r22 r23 v17 h1 g0 f18 h2 g1 f19 h3 g2 f20 h4 g3 f21)) [0, 1, 2, 3, 4] (by decide) rfl
        have hKc := hK.sub (tys' := [(g0, .int), (g1, .int), (g2, .int), (g3, .int)]) [0, 1, 2, 3] rfl
        have hFc := va_free (wc := (wd_d906eaf1 h0 v0 h1 v1 x53 (-1) 4 h2 h3 h4 r0 r1 r2 r3 v3 v4 r4 r5 r6 r7 v5 r8 r9 v6 v7 r10 r11 v8 v9 r12 v10 v11 r13 v12 w13 r14 v14 v15 r15 r16 r17 r18 r19 r20 v16 r21 r22 r23 v17 h1 g0 f18 h2 g1 f19 h3 g2 f20 h4 g3 f21)) hD hS hA [0, 1, 2, 3, 4] rfl
        refine va_callv (va_runV (As := []) (rest := []) ⟨hx, hb, hml, hown, hts⟩ (k_X12_condition_2 l dC dI h0 h1 h2 h3 h4 v0 v1 x53 r0 r1 r2 r3 v3 v4 r4 r5 r6 r7 v5 r8 r9 v6 v7 r10 r11 v8 v9 r12 v10 v11 r13 v12 w13 r14 v14 v15 r15 r16 r17 r18 r19 r20 v16 r21 r22 r23 v17 g0 f18 g1 f19 g2 f20 g3 f21 ⟨i_v1a, i_v1b⟩ ⟨by first | omega | decide, ob_x53⟩ ⟨i_v3a, i_v3b⟩ ⟨i_v4a, i_v4b⟩ ⟨i_v5a, i_v5b⟩ ⟨i_v6a, i_v6b⟩ ⟨i_v7a, i_v7b⟩ ⟨i_v8a, i_v8b⟩ ⟨i_v12a, i_v12b⟩ ⟨i_v16a, i_v16b⟩ ⟨i_v17a, i_v17b⟩ ia_f18 (by constructor <;> omega) H.size) (cwV 0 hts g_X12_unit_3_6 rfl rfl rfl (by decide +kernel) ⟨Nat.le_of_ble_eq_true rfl, Nat.le_of_ble_eq_true rfl⟩) (pv_PV12 hPc hKc hDc (q0 := 0) rfl) rfl rfl hl.1 rfl (lv_room (Nat.le_of_ble_eq_true rfl)) dX12_unit_66 ⟨Nat.le_of_ble_eq_true rfl, Nat.le_of_ble_eq_true rfl⟩) hS (fun q _ h => hFc q h) hFc (fun u t H1 locs ht hvm hwra54 hB hz1 hk1 hS => ?_)
        rcases hB with hB | hB
        · skip
          obtain ⟨x55, fn56, fn57, fn58, oa_x55, ob_x55, pt0_ra54, pt1_ra54, pt2_ra54, hP1, hK1, hD1⟩ := hB
          rw [ht] at hP1
          obtain ⟨hP2, hD2⟩ := va_join (wr := []) (w1 := (wd_d906eaf1 h0 v0 h1 v1 x55 (-1) 4 h2 h3 h4 r0 r1 r2 r3 v3 v4 r4 r5 r6 r7 v5 r8 r9 v6 v7 r10 r11 v8 v9 r12 v10 v11 r13 v12 w13 r14 v14 v15 r15 r16 r17 r18 r19 r20 v16 r21 r22 r23 v17 h1 g0 f18 h2 g1 fn56 h3 g2 fn57 h4 g3 fn58)) hP hD [0, 1, 2, 3, 4] [] rfl rfl (by decide) (by decide) hk1 hFc hP1 hD1
          clear hP hD hPc hDc hKc hFc hP1 hK1 hD1 hk1 hz1
          generalize H1 = H at hP2 hS ⊢
          have hP : va_P (dC, dI) vwCl (wd_d906eaf1 h0 v0 h1 v1 x55 (-1) 4 h2 h3 h4 r0 r1 r2 r3 v3 v4 r4 r5 r6 r7 v5 r8 r9 v6 v7 r10 r11 v8 v9 r12 v10 v11 r13 v12 w13 r14 v14 v15 r15 r16 r17 r18 r19 r20 v16 r21 r22 r23 v17 h1 g0 f18 h2 g1 fn56 h3 g2 fn57 h4 g3 fn58) H := hP2
          have hD : va_D A (wd_d906eaf1 h0 v0 h1 v1 x55 (-1) 4 h2 h3 h4 r0 r1 r2 r3 v3 v4 r4 r5 r6 r7 v5 r8 r9 v6 v7 r10 r11 v8 v9 r12 v10 v11 r13 v12 w13 r14 v14 v15 r15 r16 r17 r18 r19 r20 v16 r21 r22 r23 v17 h1 g0 f18 h2 g1 fn56 h3 g2 fn57 h4 g3 fn58) := hD2
          clear hP2 hD2
          have hgR := hgR.app (k' := 1) (D := 10) pt1_ra54 (by decide) (by decide) (by decide) (by decide)
          have hgF := hgR.1
          have hxl := hgF.1
          refine lv_aload_n hx hb dX12_unit_69 rfl (lv_at hl 1 rfl) ?_
          refine lv_bipush (v := 41) hx hb dX12_unit_70 (by decide) ?_
          have hPc := hP.sub (ws' := (wd_f4cd022e h0 v0 h1 v1 x55 (-1) 4 h2 h3 h4 r0 r1 r2 r3 v3 v4 r4 r5 r6 r7 v5 r8 r9 v6 v7 r10 r11 v8 v9 r12 v10 v11 r13 v12 w13 r14 v14 v15 r15 r16 r17 r18 r19 r20 v16 r21 r22 r23 v17 h1 g0 f18)) [0, 1] rfl
          have hDc := hD.sub (ws' := (wd_f4cd022e h0 v0 h1 v1 x55 (-1) 4 h2 h3 h4 r0 r1 r2 r3 v3 v4 r4 r5 r6 r7 v5 r8 r9 v6 v7 r10 r11 v8 v9 r12 v10 v11 r13 v12 w13 r14 v14 v15 r15 r16 r17 r18 r19 r20 v16 r21 r22 r23 v17 h1 g0 f18)) [0, 1] (by decide) rfl
          have hKc := hK.sub (tys' := [(g0, .int)]) [0] rfl
          have hFc := va_free (wc := (wd_f4cd022e h0 v0 h1 v1 x55 (-1) 4 h2 h3 h4 r0 r1 r2 r3 v3 v4 r4 r5 r6 r7 v5 r8 r9 v6 v7 r10 r11 v8 v9 r12 v10 v11 r13 v12 w13 r14 v14 v15 r15 r16 r17 r18 r19 r20 v16 r21 r22 r23 v17 h1 g0 f18)) hD hS hA [0, 1] rfl
          refine va_callv (va_runV (As := [.int 41]) (rest := []) ⟨hx, hb, hml, hown, hts⟩ (k_X12_closes_7 l dC dI h0 h1 v0 v1 x55 h2 h3 h4 r0 r1 r2 r3 v3 v4 r4 r5 r6 r7 v5 r8 r9 v6 v7 r10 r11 v8 v9 r12 v10 v11 r13 v12 w13 r14 v14 v15 r15 r16 r17 r18 r19 r20 v16 r21 r22 r23 v17 g0 f18 ⟨i_v1a, i_v1b⟩ ⟨oa_x55, ob_x55⟩ ⟨i_v3a, i_v3b⟩ ⟨i_v4a, i_v4b⟩ ⟨i_v5a, i_v5b⟩ ⟨i_v6a, i_v6b⟩ ⟨i_v7a, i_v7b⟩ ⟨i_v8a, i_v8b⟩ ⟨i_v12a, i_v12b⟩ ⟨i_v16a, i_v16b⟩ ⟨i_v17a, i_v17b⟩ ia_f18 H.size) (cwV 1 hts g_X12_unit_3_7 rfl rfl rfl (by decide +kernel) ⟨Nat.le_of_ble_eq_true rfl, Nat.le_of_ble_eq_true rfl⟩) (pv_PV12 hPc hKc hDc (q0 := 0) rfl) rfl rfl hl.1 rfl (lv_room (Nat.le_of_ble_eq_true rfl)) dX12_unit_72 ⟨Nat.le_of_ble_eq_true rfl, Nat.le_of_ble_eq_true rfl⟩) hS (fun q _ h => hFc q h) hFc (fun u t H1 locs ht hvm hwra59 hB hz1 hk1 hS => ?_)
          rcases hB with hB | hB
          · skip
            obtain ⟨x60, oa_x60, ob_x60, pt0_ra59, pt1_ra59, hP1, hK1, hD1⟩ := hB
            rw [ht] at hP1
            obtain ⟨hP2, hD2⟩ := va_join (wr := (wd_ad0642e8 h2 g1 fn56 h3 g2 fn57 h4 g3 fn58)) (w1 := (wd_f4cd022e h0 v0 h1 v1 x60 (-1) 3 h2 h3 h4 r0 r1 r2 r3 v3 v4 r4 r5 r6 r7 v5 r8 r9 v6 v7 r10 r11 v8 v9 r12 v10 v11 r13 v12 w13 r14 v14 v15 r15 r16 r17 r18 r19 r20 v16 r21 r22 r23 v17 h1 g0 f18)) hP hD [0, 1] [2, 3, 4] rfl rfl (by decide) (by decide) hk1 hFc hP1 hD1
            clear hP hD hPc hDc hKc hFc hP1 hK1 hD1 hk1 hz1
            generalize H1 = H at hP2 hS ⊢
            have hP := hP2.sub (ws' := (wd_d906eaf1 h0 v0 h1 v1 x60 (-1) 3 h2 h3 h4 r0 r1 r2 r3 v3 v4 r4 r5 r6 r7 v5 r8 r9 v6 v7 r10 r11 v8 v9 r12 v10 v11 r13 v12 w13 r14 v14 v15 r15 r16 r17 r18 r19 r20 v16 r21 r22 r23 v17 h1 g0 f18 h2 g1 fn56 h3 g2 fn57 h4 g3 fn58)) [3, 4, 0, 1, 2] rfl
            have hD := hD2.sub (ws' := (wd_d906eaf1 h0 v0 h1 v1 x60 (-1) 3 h2 h3 h4 r0 r1 r2 r3 v3 v4 r4 r5 r6 r7 v5 r8 r9 v6 v7 r10 r11 v8 v9 r12 v10 v11 r13 v12 w13 r14 v14 v15 r15 r16 r17 r18 r19 r20 v16 r21 r22 r23 v17 h1 g0 f18 h2 g1 fn56 h3 g2 fn57 h4 g3 fn58)) [3, 4, 0, 1, 2] (by decide) rfl
            clear hP2 hD2
            refine lv_goto (tgt := 94) hx hb dX12_unit_75 (by decide) ?_
            subst hQ
            have hP9 := hP.sub (ws' := (wd_d906eaf1 h0 v0 h1 v1 x60 (-1) 3 h2 h3 h4 r0 r1 r2 r3 v3 v4 r4 r5 r6 r7 v5 r8 r9 v6 v7 r10 r11 v8 v9 r12 v10 v11 r13 v12 w13 r14 v14 v15 r15 r16 r17 r18 r19 r20 v16 r21 r22 r23 v17 h1 g0 f18 h2 g1 fn56 h3 g2 fn57 h4 g3 fn58)) [0, 1, 2, 3, 4] rfl
            have hD9 := hD.sub (ws' := (wd_d906eaf1 h0 v0 h1 v1 x60 (-1) 3 h2 h3 h4 r0 r1 r2 r3 v3 v4 r4 r5 r6 r7 v5 r8 r9 v6 v7 r10 r11 v8 v9 r12 v10 v11 r13 v12 w13 r14 v14 v15 r15 r16 r17 r18 r19 r20 v16 r21 r22 r23 v17 h1 g0 f18 h2 g1 fn56 h3 g2 fn57 h4 g3 fn58)) [0, 1, 2, 3, 4] (by decide) rfl
            have hK9 := hK.sub (tys' := []) [] rfl
            exact W.vret hx hb hr (fun t ht hW => ⟨⟨(), rfl, trivial, Or.inl ⟨x60, fn56, fn57, fn58, by first | omega | decide, ob_x60, by constructor <;> omega, by exact hgR.mono (by decide), by show pg_unitF f18 v1.toInt 3 true (pg_unit f18 v1.toInt 2) (pg_con f18 v1.toInt (pg_unit f18 v1.toInt 2)) _ = _; first | (apply pg_unitF.not <;> first | assumption | omega) | (apply pg_unitF.par1 <;> first | assumption | omega) | (apply pg_unitF.par0 <;> first | assumption | omega) | (apply pg_unitF.deep <;> first | assumption | omega) | (apply pg_unitF.sum1 <;> first | assumption | omega) | (apply pg_unitF.sum0 <;> first | assumption | omega), by rw [ht]; exact hP9, va_K.moved hW.alike hK9, hD9⟩⟩, hS.F ht⟩) hS.2.2 dX12_unit_94
          · skip
            obtain ⟨x61, x62, oa_x61, ob_x61, oa_x62, ob_x62, pt0_ra59, pt1_ra59, hP1, hK1, hD1⟩ := hB
            rw [ht] at hP1
            obtain ⟨hP2, hD2⟩ := va_join (wr := (wd_ad0642e8 h2 g1 fn56 h3 g2 fn57 h4 g3 fn58)) (w1 := (wd_f4cd022e h0 v0 h1 v1 x61 x62 3 h2 h3 h4 r0 r1 r2 r3 v3 v4 r4 r5 r6 r7 v5 r8 r9 v6 v7 r10 r11 v8 v9 r12 v10 v11 r13 v12 w13 r14 v14 v15 r15 r16 r17 r18 r19 r20 v16 r21 r22 r23 v17 h1 g0 f18)) hP hD [0, 1] [2, 3, 4] rfl rfl (by decide) (by decide) hk1 hFc hP1 hD1
            clear hP hD hPc hDc hKc hFc hP1 hK1 hD1 hk1 hz1
            generalize H1 = H at hP2 hS ⊢
            have hP := hP2.sub (ws' := (wd_d906eaf1 h0 v0 h1 v1 x61 x62 3 h2 h3 h4 r0 r1 r2 r3 v3 v4 r4 r5 r6 r7 v5 r8 r9 v6 v7 r10 r11 v8 v9 r12 v10 v11 r13 v12 w13 r14 v14 v15 r15 r16 r17 r18 r19 r20 v16 r21 r22 r23 v17 h1 g0 f18 h2 g1 fn56 h3 g2 fn57 h4 g3 fn58)) [3, 4, 0, 1, 2] rfl
            have hD := hD2.sub (ws' := (wd_d906eaf1 h0 v0 h1 v1 x61 x62 3 h2 h3 h4 r0 r1 r2 r3 v3 v4 r4 r5 r6 r7 v5 r8 r9 v6 v7 r10 r11 v8 v9 r12 v10 v11 r13 v12 w13 r14 v14 v15 r15 r16 r17 r18 r19 r20 v16 r21 r22 r23 v17 h1 g0 f18 h2 g1 fn56 h3 g2 fn57 h4 g3 fn58)) [3, 4, 0, 1, 2] (by decide) rfl
            clear hP2 hD2
            refine lv_goto (tgt := 94) hx hb dX12_unit_75 (by decide) ?_
            subst hQ
            have hP9 := hP.sub (ws' := (wd_d906eaf1 h0 v0 h1 v1 x61 x62 3 h2 h3 h4 r0 r1 r2 r3 v3 v4 r4 r5 r6 r7 v5 r8 r9 v6 v7 r10 r11 v8 v9 r12 v10 v11 r13 v12 w13 r14 v14 v15 r15 r16 r17 r18 r19 r20 v16 r21 r22 r23 v17 h1 g0 f18 h2 g1 fn56 h3 g2 fn57 h4 g3 fn58)) [0, 1, 2, 3, 4] rfl
            have hD9 := hD.sub (ws' := (wd_d906eaf1 h0 v0 h1 v1 x61 x62 3 h2 h3 h4 r0 r1 r2 r3 v3 v4 r4 r5 r6 r7 v5 r8 r9 v6 v7 r10 r11 v8 v9 r12 v10 v11 r13 v12 w13 r14 v14 v15 r15 r16 r17 r18 r19 r20 v16 r21 r22 r23 v17 h1 g0 f18 h2 g1 fn56 h3 g2 fn57 h4 g3 fn58)) [0, 1, 2, 3, 4] (by decide) rfl
            have hK9 := hK.sub (tys' := []) [] rfl
            exact W.vret hx hb hr (fun t ht hW => ⟨⟨(), rfl, trivial, Or.inr (⟨x61, x62, 3, fn56, fn57, fn58, by first | omega | decide, by first | omega | decide, oa_x62, ob_x62, by constructor <;> omega, by exact hgF, by show pg_unitF f18 v1.toInt 3 true (pg_unit f18 v1.toInt 2) (pg_con f18 v1.toInt (pg_unit f18 v1.toInt 2)) _ = _; first | (apply pg_unitF.not <;> first | assumption | omega) | (apply pg_unitF.par1 <;> first | assumption | omega) | (apply pg_unitF.par0 <;> first | assumption | omega) | (apply pg_unitF.deep <;> first | assumption | omega) | (apply pg_unitF.sum1 <;> first | assumption | omega) | (apply pg_unitF.sum0 <;> first | assumption | omega), by rw [ht]; exact hP9, va_K.moved hW.alike hK9, hD9⟩)⟩, hS.F ht⟩) hS.2.2 dX12_unit_94
        · skip
          obtain ⟨x63, x64, x65, fn66, fn67, fn68, oa_x63, ob_x63, oa_x64, ob_x64, pt0_ra54, pt1_ra54, pt2_ra54, hP1, hK1, hD1⟩ := hB
          rw [ht] at hP1
          obtain ⟨hP2, hD2⟩ := va_join (wr := []) (w1 := (wd_d906eaf1 h0 v0 h1 v1 x63 x64 x65 h2 h3 h4 r0 r1 r2 r3 v3 v4 r4 r5 r6 r7 v5 r8 r9 v6 v7 r10 r11 v8 v9 r12 v10 v11 r13 v12 w13 r14 v14 v15 r15 r16 r17 r18 r19 r20 v16 r21 r22 r23 v17 h1 g0 f18 h2 g1 fn66 h3 g2 fn67 h4 g3 fn68)) hP hD [0, 1, 2, 3, 4] [] rfl rfl (by decide) (by decide) hk1 hFc hP1 hD1
          clear hP hD hPc hDc hKc hFc hP1 hK1 hD1 hk1 hz1
          generalize H1 = H at hP2 hS ⊢
          have hP : va_P (dC, dI) vwCl (wd_d906eaf1 h0 v0 h1 v1 x63 x64 x65 h2 h3 h4 r0 r1 r2 r3 v3 v4 r4 r5 r6 r7 v5 r8 r9 v6 v7 r10 r11 v8 v9 r12 v10 v11 r13 v12 w13 r14 v14 v15 r15 r16 r17 r18 r19 r20 v16 r21 r22 r23 v17 h1 g0 f18 h2 g1 fn66 h3 g2 fn67 h4 g3 fn68) H := hP2
          have hD : va_D A (wd_d906eaf1 h0 v0 h1 v1 x63 x64 x65 h2 h3 h4 r0 r1 r2 r3 v3 v4 r4 r5 r6 r7 v5 r8 r9 v6 v7 r10 r11 v8 v9 r12 v10 v11 r13 v12 w13 r14 v14 v15 r15 r16 r17 r18 r19 r20 v16 r21 r22 r23 v17 h1 g0 f18 h2 g1 fn66 h3 g2 fn67 h4 g3 fn68) := hD2
          clear hP2 hD2
          have hgF := hgF.app pt1_ra54
          have hxl := hgF.1
          refine lv_aload_n hx hb dX12_unit_69 rfl (lv_at hl 1 rfl) ?_
          refine lv_bipush (v := 41) hx hb dX12_unit_70 (by decide) ?_
          have hPc := hP.sub (ws' := (wd_171f232f h0 v0 h1 v1 x63 x64 x65 h2 h3 h4 r0 r1 r2 r3 v3 v4 r4 r5 r6 r7 v5 r8 r9 v6 v7 r10 r11 v8 v9 r12 v10 v11 r13 v12 w13 r14 v14 v15 r15 r16 r17 r18 r19 r20 v16 r21 r22 r23 v17)) [0] rfl
          have hDc := hD.sub (ws' := (wd_171f232f h0 v0 h1 v1 x63 x64 x65 h2 h3 h4 r0 r1 r2 r3 v3 v4 r4 r5 r6 r7 v5 r8 r9 v6 v7 r10 r11 v8 v9 r12 v10 v11 r13 v12 w13 r14 v14 v15 r15 r16 r17 r18 r19 r20 v16 r21 r22 r23 v17)) [0] (by decide) rfl
          have hKc := hK.sub (tys' := []) [] rfl
          have hFc := va_free (wc := (wd_171f232f h0 v0 h1 v1 x63 x64 x65 h2 h3 h4 r0 r1 r2 r3 v3 v4 r4 r5 r6 r7 v5 r8 r9 v6 v7 r10 r11 v8 v9 r12 v10 v11 r13 v12 w13 r14 v14 v15 r15 r16 r17 r18 r19 r20 v16 r21 r22 r23 v17)) hD hS hA [0] rfl
          refine va_callv (va_runV (As := [.int 41]) (rest := []) ⟨hx, hb, hml, hown, hts⟩ (k_X12_closes_3 l dC dI h0 v0 h1 v1 x63 x64 x65 h2 h3 h4 r0 r1 r2 r3 v3 v4 r4 r5 r6 r7 v5 r8 r9 v6 v7 r10 r11 v8 v9 r12 v10 v11 r13 v12 w13 r14 v14 v15 r15 r16 r17 r18 r19 r20 v16 r21 r22 r23 v17 ⟨i_v1a, i_v1b⟩ ⟨oa_x63, by first | omega | decide⟩ ⟨oa_x64, by first | omega | decide⟩ ⟨i_v3a, i_v3b⟩ ⟨i_v4a, i_v4b⟩ ⟨i_v5a, i_v5b⟩ ⟨i_v6a, i_v6b⟩ ⟨i_v7a, i_v7b⟩ ⟨i_v8a, i_v8b⟩ ⟨i_v12a, i_v12b⟩ ⟨i_v16a, i_v16b⟩ ⟨i_v17a, i_v17b⟩ H.size) (cwV 1 hts g_X12_unit_3_8 rfl rfl rfl (by decide +kernel) ⟨Nat.le_of_ble_eq_true rfl, Nat.le_of_ble_eq_true rfl⟩) (pv_PV12 hPc hKc hDc (q0 := 0) rfl) rfl rfl hl.1 rfl (lv_room (Nat.le_of_ble_eq_true rfl)) dX12_unit_72 ⟨Nat.le_of_ble_eq_true rfl, Nat.le_of_ble_eq_true rfl⟩) hS (fun q _ h => hFc q h) hFc (fun u t H1 locs ht hvm hwra69 hB hz1 hk1 hS => ?_)
          obtain ⟨x70, x71, oa_x70, ob_x70, pt0_ra69, hP1, hK1, hD1⟩ := hB
          rw [ht] at hP1
          obtain ⟨hP2, hD2⟩ := va_join (wr := (wd_bfe486e6 h1 g0 f18 h2 g1 fn66 h3 g2 fn67 h4 g3 fn68)) (w1 := (wd_171f232f h0 v0 h1 v1 x70 x64 x71 h2 h3 h4 r0 r1 r2 r3 v3 v4 r4 r5 r6 r7 v5 r8 r9 v6 v7 r10 r11 v8 v9 r12 v10 v11 r13 v12 w13 r14 v14 v15 r15 r16 r17 r18 r19 r20 v16 r21 r22 r23 v17)) hP hD [0] [1, 2, 3, 4] rfl rfl (by decide) (by decide) hk1 hFc hP1 hD1
          clear hP hD hPc hDc hKc hFc hP1 hK1 hD1 hk1 hz1
          generalize H1 = H at hP2 hS ⊢
          have hP := hP2.sub (ws' := (wd_d906eaf1 h0 v0 h1 v1 x70 x64 x71 h2 h3 h4 r0 r1 r2 r3 v3 v4 r4 r5 r6 r7 v5 r8 r9 v6 v7 r10 r11 v8 v9 r12 v10 v11 r13 v12 w13 r14 v14 v15 r15 r16 r17 r18 r19 r20 v16 r21 r22 r23 v17 h1 g0 f18 h2 g1 fn66 h3 g2 fn67 h4 g3 fn68)) [4, 0, 1, 2, 3] rfl
          have hD := hD2.sub (ws' := (wd_d906eaf1 h0 v0 h1 v1 x70 x64 x71 h2 h3 h4 r0 r1 r2 r3 v3 v4 r4 r5 r6 r7 v5 r8 r9 v6 v7 r10 r11 v8 v9 r12 v10 v11 r13 v12 w13 r14 v14 v15 r15 r16 r17 r18 r19 r20 v16 r21 r22 r23 v17 h1 g0 f18 h2 g1 fn66 h3 g2 fn67 h4 g3 fn68)) [4, 0, 1, 2, 3] (by decide) rfl
          clear hP2 hD2
          refine lv_goto (tgt := 94) hx hb dX12_unit_75 (by decide) ?_
          subst hQ
          have hP9 := hP.sub (ws' := (wd_d906eaf1 h0 v0 h1 v1 x70 x64 x71 h2 h3 h4 r0 r1 r2 r3 v3 v4 r4 r5 r6 r7 v5 r8 r9 v6 v7 r10 r11 v8 v9 r12 v10 v11 r13 v12 w13 r14 v14 v15 r15 r16 r17 r18 r19 r20 v16 r21 r22 r23 v17 h1 g0 f18 h2 g1 fn66 h3 g2 fn67 h4 g3 fn68)) [0, 1, 2, 3, 4] rfl
          have hD9 := hD.sub (ws' := (wd_d906eaf1 h0 v0 h1 v1 x70 x64 x71 h2 h3 h4 r0 r1 r2 r3 v3 v4 r4 r5 r6 r7 v5 r8 r9 v6 v7 r10 r11 v8 v9 r12 v10 v11 r13 v12 w13 r14 v14 v15 r15 r16 r17 r18 r19 r20 v16 r21 r22 r23 v17 h1 g0 f18 h2 g1 fn66 h3 g2 fn67 h4 g3 fn68)) [0, 1, 2, 3, 4] (by decide) rfl
          have hK9 := hK.sub (tys' := []) [] rfl
          exact W.vret hx hb hr (fun t ht hW => ⟨⟨(), rfl, trivial, Or.inr (⟨x70, x64, x71, fn66, fn67, fn68, by first | omega | decide, by first | omega | decide, oa_x64, ob_x64, by constructor <;> omega, by exact hgF, by show pg_unitF f18 v1.toInt 3 true (pg_unit f18 v1.toInt 2) (pg_con f18 v1.toInt (pg_unit f18 v1.toInt 2)) _ = _; first | (apply pg_unitF.not <;> first | assumption | omega) | (apply pg_unitF.par1 <;> first | assumption | omega) | (apply pg_unitF.par0 <;> first | assumption | omega) | (apply pg_unitF.deep <;> first | assumption | omega) | (apply pg_unitF.sum1 <;> first | assumption | omega) | (apply pg_unitF.sum0 <;> first | assumption | omega), by rw [ht]; exact hP9, va_K.moved hW.alike hK9, hD9⟩)⟩, hS.F ht⟩) hS.2.2 dX12_unit_94
    · skip
      have fc27 : ra1.toInt = 33 := congrArg Int32.toInt c27
      refine lv_aload_n hx hb dX12_unit_11 rfl (lv_at hl 1 rfl) ?_
      have hPc := hP.sub (ws' := (wd_171f232f h0 v0 h1 v1 x26 (-1) 3 h2 h3 h4 r0 r1 r2 r3 v3 v4 r4 r5 r6 r7 v5 r8 r9 v6 v7 r10 r11 v8 v9 r12 v10 v11 r13 v12 w13 r14 v14 v15 r15 r16 r17 r18 r19 r20 v16 r21 r22 r23 v17)) [0] rfl
      have hDc := hD.sub (ws' := (wd_171f232f h0 v0 h1 v1 x26 (-1) 3 h2 h3 h4 r0 r1 r2 r3 v3 v4 r4 r5 r6 r7 v5 r8 r9 v6 v7 r10 r11 v8 v9 r12 v10 v11 r13 v12 w13 r14 v14 v15 r15 r16 r17 r18 r19 r20 v16 r21 r22 r23 v17)) [0] (by decide) rfl
      have hKc := hK.sub (tys' := []) [] rfl
      have hFc := va_free (wc := (wd_171f232f h0 v0 h1 v1 x26 (-1) 3 h2 h3 h4 r0 r1 r2 r3 v3 v4 r4 r5 r6 r7 v5 r8 r9 v6 v7 r10 r11 v8 v9 r12 v10 v11 r13 v12 w13 r14 v14 v15 r15 r16 r17 r18 r19 r20 v16 r21 r22 r23 v17)) hD hS hA [0] rfl
      refine va_callv (va_runV (As := []) (rest := []) ⟨hx, hb, hml, hown, hts⟩ (k_X12_opens_3 l dC dI h0 v0 h1 v1 x26 h2 h3 h4 r0 r1 r2 r3 v3 v4 r4 r5 r6 r7 v5 r8 r9 v6 v7 r10 r11 v8 v9 r12 v10 v11 r13 v12 w13 r14 v14 v15 r15 r16 r17 r18 r19 r20 v16 r21 r22 r23 v17 ⟨i_v1a, i_v1b⟩ ⟨oa_x26, ob_x26⟩ ⟨i_v3a, i_v3b⟩ ⟨i_v4a, i_v4b⟩ ⟨i_v5a, i_v5b⟩ ⟨i_v6a, i_v6b⟩ ⟨i_v7a, i_v7b⟩ ⟨i_v8a, i_v8b⟩ ⟨i_v12a, i_v12b⟩ ⟨i_v16a, i_v16b⟩ ⟨i_v17a, i_v17b⟩ H.size) (cwV 0 hts g_X12_unit_3_5 rfl rfl rfl (by decide +kernel) ⟨Nat.le_of_ble_eq_true rfl, Nat.le_of_ble_eq_true rfl⟩) (pv_PV12 hPc hKc hDc (q0 := 0) rfl) rfl rfl hl.1 rfl (lv_room (Nat.le_of_ble_eq_true rfl)) dX12_unit_12 ⟨Nat.le_of_ble_eq_true rfl, Nat.le_of_ble_eq_true rfl⟩) hS (fun q _ h => hFc q h) hFc (fun u t H1 locs ht hvm hwra72 hB hz1 hk1 hS => ?_)
      obtain ⟨x73, oa_x73, ob_x73, pt0_ra72, hP1, hK1, hD1⟩ := hB
      rw [ht] at hP1
      obtain ⟨hP2, hD2⟩ := va_join (wr := (wd_bfe486e6 h1 g0 f18 h2 g1 f19 h3 g2 f20 h4 g3 f21)) (w1 := (wd_171f232f h0 v0 h1 v1 x73 (-1) 4 h2 h3 h4 r0 r1 r2 r3 v3 v4 r4 r5 r6 r7 v5 r8 r9 v6 v7 r10 r11 v8 v9 r12 v10 v11 r13 v12 w13 r14 v14 v15 r15 r16 r17 r18 r19 r20 v16 r21 r22 r23 v17)) hP hD [0] [1, 2, 3, 4] rfl rfl (by decide) (by decide) hk1 hFc hP1 hD1
      clear hP hD hPc hDc hKc hFc hP1 hK1 hD1 hk1 hz1
      generalize H1 = H at hP2 hS ⊢
      have hP := hP2.sub (ws' := (wd_d906eaf1 h0 v0 h1 v1 x73 (-1) 4 h2 h3 h4 r0 r1 r2 r3 v3 v4 r4 r5 r6 r7 v5 r8 r9 v6 v7 r10 r11 v8 v9 r12 v10 v11 r13 v12 w13 r14 v14 v15 r15 r16 r17 r18 r19 r20 v16 r21 r22 r23 v17 h1 g0 f18 h2 g1 f19 h3 g2 f20 h4 g3 f21)) [4, 0, 1, 2, 3] rfl
      have hD := hD2.sub (ws' := (wd_d906eaf1 h0 v0 h1 v1 x73 (-1) 4 h2 h3 h4 r0 r1 r2 r3 v3 v4 r4 r5 r6 r7 v5 r8 r9 v6 v7 r10 r11 v8 v9 r12 v10 v11 r13 v12 w13 r14 v14 v15 r15 r16 r17 r18 r19 r20 v16 r21 r22 r23 v17 h1 g0 f18 h2 g1 f19 h3 g2 f20 h4 g3 f21)) [4, 0, 1, 2, 3] (by decide) rfl
      clear hP2 hD2
      refine lv_aload_n hx hb dX12_unit_15 rfl (lv_at hl 1 rfl) ?_
      refine va_get (D := (dC, dI)) (ci := 12) (v := .int (-1)) (C := RX12) (T := TX12) (N := 48) hx hb hts (fun _ h => List.mem_cons_of_mem _ (List.mem_append_right _ h)) hown hK hP 0 rfl rfl 4 (by decide) (hts (.fieldLink RX12 119 "LeftArgumentsModel" "wrong" "I") (List.mem_cons_of_mem _ (List.mem_append_left _ (List.mem_of_getElem? (i := 22) rfl)))) (fun _ h9 => h9) rfl dX12_unit_16 ?_
      refine lv_iconst (v := (-1)) hx hb dX12_unit_19 (by decide) ?_
      refine lv_icmp_ne (tgt := 94) hx hb dX12_unit_20 (by decide) (fun c => absurd (by decide) c) (fun _ => ?_)
      refine lv_aload_n hx hb dX12_unit_23 rfl (lv_at hl 1 rfl) ?_
      have hPc := hP.sub (ws' := (wd_d906eaf1 h0 v0 h1 v1 x73 (-1) 4 h2 h3 h4 r0 r1 r2 r3 v3 v4 r4 r5 r6 r7 v5 r8 r9 v6 v7 r10 r11 v8 v9 r12 v10 v11 r13 v12 w13 r14 v14 v15 r15 r16 r17 r18 r19 r20 v16 r21 r22 r23 v17 h1 g0 f18 h2 g1 f19 h3 g2 f20 h4 g3 f21)) [0, 1, 2, 3, 4] rfl
      have hDc := hD.sub (ws' := (wd_d906eaf1 h0 v0 h1 v1 x73 (-1) 4 h2 h3 h4 r0 r1 r2 r3 v3 v4 r4 r5 r6 r7 v5 r8 r9 v6 v7 r10 r11 v8 v9 r12 v10 v11 r13 v12 w13 r14 v14 v15 r15 r16 r17 r18 r19 r20 v16 r21 r22 r23 v17 h1 g0 f18 h2 g1 f19 h3 g2 f20 h4 g3 f21)) [0, 1, 2, 3, 4] (by decide) rfl
      have hKc := hK.sub (tys' := [(g0, .int), (g1, .int), (g2, .int), (g3, .int)]) [0, 1, 2, 3] rfl
      have hFc := va_free (wc := (wd_d906eaf1 h0 v0 h1 v1 x73 (-1) 4 h2 h3 h4 r0 r1 r2 r3 v3 v4 r4 r5 r6 r7 v5 r8 r9 v6 v7 r10 r11 v8 v9 r12 v10 v11 r13 v12 w13 r14 v14 v15 r15 r16 r17 r18 r19 r20 v16 r21 r22 r23 v17 h1 g0 f18 h2 g1 f19 h3 g2 f20 h4 g3 f21)) hD hS hA [0, 1, 2, 3, 4] rfl
      refine va_callv (va_runV (As := []) (rest := []) ⟨hx, hb, hml, hown, hts⟩ (k_X12_unit_2 l dC dI h0 h1 h2 h3 h4 v0 v1 x73 r0 r1 r2 r3 v3 v4 r4 r5 r6 r7 v5 r8 r9 v6 v7 r10 r11 v8 v9 r12 v10 v11 r13 v12 w13 r14 v14 v15 r15 r16 r17 r18 r19 r20 v16 r21 r22 r23 v17 g0 f18 g1 f19 g2 f20 g3 f21 ⟨i_v1a, i_v1b⟩ ⟨by first | omega | decide, ob_x73⟩ ⟨i_v3a, i_v3b⟩ ⟨i_v4a, i_v4b⟩ ⟨i_v5a, i_v5b⟩ ⟨i_v6a, i_v6b⟩ ⟨i_v7a, i_v7b⟩ ⟨i_v8a, i_v8b⟩ ⟨i_v12a, i_v12b⟩ ⟨i_v16a, i_v16b⟩ ⟨i_v17a, i_v17b⟩ ia_f18 (by constructor <;> omega) H.size) (cwV 0 hts g_X12_unit_3_10 rfl rfl rfl (by decide +kernel) ⟨Nat.le_of_ble_eq_true rfl, Nat.le_of_ble_eq_true rfl⟩) (pv_PV12 hPc hKc hDc (q0 := 0) rfl) rfl rfl hl.1 rfl (lv_room (Nat.le_of_ble_eq_true rfl)) dX12_unit_24 ⟨Nat.le_of_ble_eq_true rfl, Nat.le_of_ble_eq_true rfl⟩) hS (fun q _ h => hFc q h) hFc (fun u t H1 locs ht hvm hwra74 hB hz1 hk1 hS => ?_)
      rcases hB with hB | hB
      · skip
        obtain ⟨x75, fn76, fn77, fn78, oa_x75, ob_x75, pt0_ra74, pt1_ra74, pt2_ra74, hP1, hK1, hD1⟩ := hB
        rw [ht] at hP1
        obtain ⟨hP2, hD2⟩ := va_join (wr := []) (w1 := (wd_d906eaf1 h0 v0 h1 v1 x75 (-1) 4 h2 h3 h4 r0 r1 r2 r3 v3 v4 r4 r5 r6 r7 v5 r8 r9 v6 v7 r10 r11 v8 v9 r12 v10 v11 r13 v12 w13 r14 v14 v15 r15 r16 r17 r18 r19 r20 v16 r21 r22 r23 v17 h1 g0 f18 h2 g1 fn76 h3 g2 fn77 h4 g3 fn78)) hP hD [0, 1, 2, 3, 4] [] rfl rfl (by decide) (by decide) hk1 hFc hP1 hD1
        clear hP hD hPc hDc hKc hFc hP1 hK1 hD1 hk1 hz1
        generalize H1 = H at hP2 hS ⊢
        have hP : va_P (dC, dI) vwCl (wd_d906eaf1 h0 v0 h1 v1 x75 (-1) 4 h2 h3 h4 r0 r1 r2 r3 v3 v4 r4 r5 r6 r7 v5 r8 r9 v6 v7 r10 r11 v8 v9 r12 v10 v11 r13 v12 w13 r14 v14 v15 r15 r16 r17 r18 r19 r20 v16 r21 r22 r23 v17 h1 g0 f18 h2 g1 fn76 h3 g2 fn77 h4 g3 fn78) H := hP2
        have hD : va_D A (wd_d906eaf1 h0 v0 h1 v1 x75 (-1) 4 h2 h3 h4 r0 r1 r2 r3 v3 v4 r4 r5 r6 r7 v5 r8 r9 v6 v7 r10 r11 v8 v9 r12 v10 v11 r13 v12 w13 r14 v14 v15 r15 r16 r17 r18 r19 r20 v16 r21 r22 r23 v17 h1 g0 f18 h2 g1 fn76 h3 g2 fn77 h4 g3 fn78) := hD2
        clear hP2 hD2
        have hgR := hgR.app (k' := 1) (D := 8) pt1_ra74 (by decide) (by decide) (by decide) (by decide)
        have hgF := hgR.1
        have hxl := hgF.1
        refine lv_aload_n hx hb dX12_unit_27 rfl (lv_at hl 1 rfl) ?_
        refine lv_bipush (v := 9) hx hb dX12_unit_28 (by decide) ?_
        refine lv_iconst (v := 0) hx hb dX12_unit_30 (by decide) ?_
        have hPc := hP.sub (ws' := (wd_c62683a8 h0 v0 h1 v1 x75 (-1) 4 h2 h3 h4 r0 r1 r2 r3 v3 v4 r4 r5 r6 r7 v5 r8 r9 v6 v7 r10 r11 v8 v9 r12 v10 v11 r13 v12 w13 r14 v14 v15 r15 r16 r17 r18 r19 r20 v16 r21 r22 r23 v17 h2 g1 fn76 h3 g2 fn77 h4 g3 fn78)) [0, 2, 3, 4] rfl
        have hDc := hD.sub (ws' := (wd_c62683a8 h0 v0 h1 v1 x75 (-1) 4 h2 h3 h4 r0 r1 r2 r3 v3 v4 r4 r5 r6 r7 v5 r8 r9 v6 v7 r10 r11 v8 v9 r12 v10 v11 r13 v12 w13 r14 v14 v15 r15 r16 r17 r18 r19 r20 v16 r21 r22 r23 v17 h2 g1 fn76 h3 g2 fn77 h4 g3 fn78)) [0, 2, 3, 4] (by decide) rfl
        have hKc := hK.sub (tys' := [(g1, .int), (g2, .int), (g3, .int)]) [1, 2, 3] rfl
        have hFc := va_free (wc := (wd_c62683a8 h0 v0 h1 v1 x75 (-1) 4 h2 h3 h4 r0 r1 r2 r3 v3 v4 r4 r5 r6 r7 v5 r8 r9 v6 v7 r10 r11 v8 v9 r12 v10 v11 r13 v12 w13 r14 v14 v15 r15 r16 r17 r18 r19 r20 v16 r21 r22 r23 v17 h2 g1 fn76 h3 g2 fn77 h4 g3 fn78)) hD hS hA [0, 2, 3, 4] rfl
        refine va_callv (va_runV (As := [.int 9, .int 0]) (rest := []) ⟨hx, hb, hml, hown, hts⟩ (k_X12_put l dC dI h0 h2 h3 h4 v0 h1 v1 x75 ((-1)) 4 r0 r1 r2 r3 v3 v4 r4 r5 r6 r7 v5 r8 r9 v6 v7 r10 r11 v8 v9 r12 v10 v11 r13 v12 w13 r14 v14 v15 r15 r16 r17 r18 r19 r20 v16 r21 r22 r23 v17 g1 fn76 g2 fn77 g3 fn78 9 0 ⟨i_v1a, i_v1b⟩ ⟨i_v3a, i_v3b⟩ ⟨i_v4a, i_v4b⟩ ⟨i_v5a, i_v5b⟩ ⟨i_v6a, i_v6b⟩ ⟨i_v7a, i_v7b⟩ ⟨i_v8a, i_v8b⟩ ⟨i_v12a, i_v12b⟩ ⟨i_v16a, i_v16b⟩ ⟨i_v17a, i_v17b⟩ (by constructor <;> omega) H.size) (cwV 2 hts g_X12_unit_3_11 rfl rfl rfl (by decide +kernel) ⟨Nat.le_of_ble_eq_true rfl, Nat.le_of_ble_eq_true rfl⟩) (pv_PV12 hPc hKc hDc (q0 := 0) rfl) rfl rfl hl.1 rfl (lv_room (Nat.le_of_ble_eq_true rfl)) dX12_unit_31 ⟨Nat.le_of_ble_eq_true rfl, Nat.le_of_ble_eq_true rfl⟩) hS (fun q _ h => hFc q h) hFc (fun u t H1 locs ht hvm hwra79 hB hz1 hk1 hS => ?_)
        have hkra79_0 : (((-1) : Int32)).toInt = -1 := by decide
        have hkra79_1 : ((0 : Int32)).toInt = 0 := by decide
        have hkra79_2 : ((4 : Int32)).toInt = 4 := by decide
        have hkra79_3 : ((9 : Int32)).toInt = 9 := by decide
        obtain ⟨fn80, fn81, fn82, pt0_ra79, hP1, hK1, hD1⟩ := hB
        rw [ht] at hP1
        obtain ⟨hP2, hD2⟩ := va_join (wr := (wd_d0032b31 h1 g0 f18)) (w1 := (wd_c62683a8 h0 v0 h1 v1 x75 (-1) 4 h2 h3 h4 r0 r1 r2 r3 v3 v4 r4 r5 r6 r7 v5 r8 r9 v6 v7 r10 r11 v8 v9 r12 v10 v11 r13 v12 w13 r14 v14 v15 r15 r16 r17 r18 r19 r20 v16 r21 r22 r23 v17 h2 g1 fn80 h3 g2 fn81 h4 g3 fn82)) hP hD [0, 2, 3, 4] [1] rfl rfl (by decide) (by decide) hk1 hFc hP1 hD1
        clear hP hD hPc hDc hKc hFc hP1 hK1 hD1 hk1 hz1
        generalize H1 = H at hP2 hS ⊢
        have hP := hP2.sub (ws' := (wd_d906eaf1 h0 v0 h1 v1 x75 (-1) 4 h2 h3 h4 r0 r1 r2 r3 v3 v4 r4 r5 r6 r7 v5 r8 r9 v6 v7 r10 r11 v8 v9 r12 v10 v11 r13 v12 w13 r14 v14 v15 r15 r16 r17 r18 r19 r20 v16 r21 r22 r23 v17 h1 g0 f18 h2 g1 fn80 h3 g2 fn81 h4 g3 fn82)) [1, 0, 2, 3, 4] rfl
        have hD := hD2.sub (ws' := (wd_d906eaf1 h0 v0 h1 v1 x75 (-1) 4 h2 h3 h4 r0 r1 r2 r3 v3 v4 r4 r5 r6 r7 v5 r8 r9 v6 v7 r10 r11 v8 v9 r12 v10 v11 r13 v12 w13 r14 v14 v15 r15 r16 r17 r18 r19 r20 v16 r21 r22 r23 v17 h1 g0 f18 h2 g1 fn80 h3 g2 fn81 h4 g3 fn82)) [1, 0, 2, 3, 4] (by decide) rfl
        clear hP2 hD2
        have hgR := hgR.not (k' := 1) (D := 8) pt0_ra79 (by decide) (by decide) (by decide) (by decide)
        have hgF := hgR.1
        have hxl := hgF.1
        have hxs := pt0_ra79.step
        refine lv_aload_n hx hb dX12_unit_34 rfl (lv_at hl 1 rfl) ?_
        refine lv_dup hx hb dX12_unit_35 rfl ?_
        refine va_get (D := (dC, dI)) (ci := 12) (v := .int 4) (C := RX12) (T := TX12) (N := 48) hx hb hts (fun _ h => List.mem_cons_of_mem _ (List.mem_append_right _ h)) hown hK hP 0 rfl rfl 5 (by decide) (hts (.fieldLink RX12 125 "LeftArgumentsModel" "deep" "I") (List.mem_cons_of_mem _ (List.mem_append_left _ (List.mem_of_getElem? (i := 27) rfl)))) (fun _ h9 => h9) rfl dX12_unit_36 ?_
        refine lv_iconst (v := 1) hx hb dX12_unit_39 (by decide) ?_
        refine lv_isub hx hb dX12_unit_40 ?_
        refine lv_topi (fun tv83 etv83 => ?_)
        obtain rfl : tv83 = (3 : Int32) := etv83.trans (by first | rfl | decide)
        refine va_put (D := (dC, dI)) (ci := 12) (v := .int 3) (ty := .int) (C := RX12) (T := TX12) (N := 48) hx hb hts (fun _ h => List.mem_cons_of_mem _ (List.mem_append_right _ h)) tyX12 tyX12_ok nmX12 hown hK hP hD hS 0 rfl rfl 5 (by decide) (hts (.fieldLink RX12 125 "LeftArgumentsModel" "deep" "I") (List.mem_cons_of_mem _ (List.mem_append_left _ (List.mem_of_getElem? (i := 27) rfl)))) (fun _ h9 => h9) rfl (by decide +kernel) rfl rfl (Nat.le_of_ble_eq_true rfl) dX12_unit_41 (fun H locs hP hD hS => ?_)
        have hP : va_P (dC, dI) vwCl (wd_d906eaf1 h0 v0 h1 v1 x75 (-1) 3 h2 h3 h4 r0 r1 r2 r3 v3 v4 r4 r5 r6 r7 v5 r8 r9 v6 v7 r10 r11 v8 v9 r12 v10 v11 r13 v12 w13 r14 v14 v15 r15 r16 r17 r18 r19 r20 v16 r21 r22 r23 v17 h1 g0 f18 h2 g1 fn80 h3 g2 fn81 h4 g3 fn82) H := hP
        have hD : va_D A (wd_d906eaf1 h0 v0 h1 v1 x75 (-1) 3 h2 h3 h4 r0 r1 r2 r3 v3 v4 r4 r5 r6 r7 v5 r8 r9 v6 v7 r10 r11 v8 v9 r12 v10 v11 r13 v12 w13 r14 v14 v15 r15 r16 r17 r18 r19 r20 v16 r21 r22 r23 v17 h1 g0 f18 h2 g1 fn80 h3 g2 fn81 h4 g3 fn82) := hD
        refine lv_goto (tgt := 94) hx hb dX12_unit_44 (by decide) ?_
        subst hQ
        have hP9 := hP.sub (ws' := (wd_d906eaf1 h0 v0 h1 v1 x75 (-1) 3 h2 h3 h4 r0 r1 r2 r3 v3 v4 r4 r5 r6 r7 v5 r8 r9 v6 v7 r10 r11 v8 v9 r12 v10 v11 r13 v12 w13 r14 v14 v15 r15 r16 r17 r18 r19 r20 v16 r21 r22 r23 v17 h1 g0 f18 h2 g1 fn80 h3 g2 fn81 h4 g3 fn82)) [0, 1, 2, 3, 4] rfl
        have hD9 := hD.sub (ws' := (wd_d906eaf1 h0 v0 h1 v1 x75 (-1) 3 h2 h3 h4 r0 r1 r2 r3 v3 v4 r4 r5 r6 r7 v5 r8 r9 v6 v7 r10 r11 v8 v9 r12 v10 v11 r13 v12 w13 r14 v14 v15 r15 r16 r17 r18 r19 r20 v16 r21 r22 r23 v17 h1 g0 f18 h2 g1 fn80 h3 g2 fn81 h4 g3 fn82)) [0, 1, 2, 3, 4] (by decide) rfl
        have hK9 := hK.sub (tys' := []) [] rfl
        exact W.vret hx hb hr (fun t ht hW => ⟨⟨(), rfl, trivial, Or.inl ⟨x75, fn80, fn81, fn82, oa_x75, ob_x75, by constructor <;> omega, by exact hgR.mono (by decide), by show pg_unitF f18 v1.toInt 3 true (pg_unit f18 v1.toInt 2) (pg_con f18 v1.toInt (pg_unit f18 v1.toInt 2)) _ = _; first | (apply pg_unitF.not <;> first | assumption | omega) | (apply pg_unitF.par1 <;> first | assumption | omega) | (apply pg_unitF.par0 <;> first | assumption | omega) | (apply pg_unitF.deep <;> first | assumption | omega) | (apply pg_unitF.sum1 <;> first | assumption | omega) | (apply pg_unitF.sum0 <;> first | assumption | omega), by rw [ht]; exact hP9, va_K.moved hW.alike hK9, hD9⟩⟩, hS.F ht⟩) hS.2.2 dX12_unit_94
      · skip
        obtain ⟨x84, x85, x86, fn87, fn88, fn89, oa_x84, ob_x84, oa_x85, ob_x85, pt0_ra74, pt1_ra74, pt2_ra74, hP1, hK1, hD1⟩ := hB
        rw [ht] at hP1
        obtain ⟨hP2, hD2⟩ := va_join (wr := []) (w1 := (wd_d906eaf1 h0 v0 h1 v1 x84 x85 x86 h2 h3 h4 r0 r1 r2 r3 v3 v4 r4 r5 r6 r7 v5 r8 r9 v6 v7 r10 r11 v8 v9 r12 v10 v11 r13 v12 w13 r14 v14 v15 r15 r16 r17 r18 r19 r20 v16 r21 r22 r23 v17 h1 g0 f18 h2 g1 fn87 h3 g2 fn88 h4 g3 fn89)) hP hD [0, 1, 2, 3, 4] [] rfl rfl (by decide) (by decide) hk1 hFc hP1 hD1
        clear hP hD hPc hDc hKc hFc hP1 hK1 hD1 hk1 hz1
        generalize H1 = H at hP2 hS ⊢
        have hP : va_P (dC, dI) vwCl (wd_d906eaf1 h0 v0 h1 v1 x84 x85 x86 h2 h3 h4 r0 r1 r2 r3 v3 v4 r4 r5 r6 r7 v5 r8 r9 v6 v7 r10 r11 v8 v9 r12 v10 v11 r13 v12 w13 r14 v14 v15 r15 r16 r17 r18 r19 r20 v16 r21 r22 r23 v17 h1 g0 f18 h2 g1 fn87 h3 g2 fn88 h4 g3 fn89) H := hP2
        have hD : va_D A (wd_d906eaf1 h0 v0 h1 v1 x84 x85 x86 h2 h3 h4 r0 r1 r2 r3 v3 v4 r4 r5 r6 r7 v5 r8 r9 v6 v7 r10 r11 v8 v9 r12 v10 v11 r13 v12 w13 r14 v14 v15 r15 r16 r17 r18 r19 r20 v16 r21 r22 r23 v17 h1 g0 f18 h2 g1 fn87 h3 g2 fn88 h4 g3 fn89) := hD2
        clear hP2 hD2
        have hgF := hgF.app pt1_ra74
        have hxl := hgF.1
        refine lv_aload_n hx hb dX12_unit_27 rfl (lv_at hl 1 rfl) ?_
        refine lv_bipush (v := 9) hx hb dX12_unit_28 (by decide) ?_
        refine lv_iconst (v := 0) hx hb dX12_unit_30 (by decide) ?_
        have hPc := hP.sub (ws' := (wd_c62683a8 h0 v0 h1 v1 x84 x85 x86 h2 h3 h4 r0 r1 r2 r3 v3 v4 r4 r5 r6 r7 v5 r8 r9 v6 v7 r10 r11 v8 v9 r12 v10 v11 r13 v12 w13 r14 v14 v15 r15 r16 r17 r18 r19 r20 v16 r21 r22 r23 v17 h2 g1 fn87 h3 g2 fn88 h4 g3 fn89)) [0, 2, 3, 4] rfl
        have hDc := hD.sub (ws' := (wd_c62683a8 h0 v0 h1 v1 x84 x85 x86 h2 h3 h4 r0 r1 r2 r3 v3 v4 r4 r5 r6 r7 v5 r8 r9 v6 v7 r10 r11 v8 v9 r12 v10 v11 r13 v12 w13 r14 v14 v15 r15 r16 r17 r18 r19 r20 v16 r21 r22 r23 v17 h2 g1 fn87 h3 g2 fn88 h4 g3 fn89)) [0, 2, 3, 4] (by decide) rfl
        have hKc := hK.sub (tys' := [(g1, .int), (g2, .int), (g3, .int)]) [1, 2, 3] rfl
        have hFc := va_free (wc := (wd_c62683a8 h0 v0 h1 v1 x84 x85 x86 h2 h3 h4 r0 r1 r2 r3 v3 v4 r4 r5 r6 r7 v5 r8 r9 v6 v7 r10 r11 v8 v9 r12 v10 v11 r13 v12 w13 r14 v14 v15 r15 r16 r17 r18 r19 r20 v16 r21 r22 r23 v17 h2 g1 fn87 h3 g2 fn88 h4 g3 fn89)) hD hS hA [0, 2, 3, 4] rfl
        refine va_callv (va_runV (As := [.int 9, .int 0]) (rest := []) ⟨hx, hb, hml, hown, hts⟩ (k_X12_put l dC dI h0 h2 h3 h4 v0 h1 v1 x84 x85 x86 r0 r1 r2 r3 v3 v4 r4 r5 r6 r7 v5 r8 r9 v6 v7 r10 r11 v8 v9 r12 v10 v11 r13 v12 w13 r14 v14 v15 r15 r16 r17 r18 r19 r20 v16 r21 r22 r23 v17 g1 fn87 g2 fn88 g3 fn89 9 0 ⟨i_v1a, i_v1b⟩ ⟨i_v3a, i_v3b⟩ ⟨i_v4a, i_v4b⟩ ⟨i_v5a, i_v5b⟩ ⟨i_v6a, i_v6b⟩ ⟨i_v7a, i_v7b⟩ ⟨i_v8a, i_v8b⟩ ⟨i_v12a, i_v12b⟩ ⟨i_v16a, i_v16b⟩ ⟨i_v17a, i_v17b⟩ (by constructor <;> omega) H.size) (cwV 2 hts g_X12_unit_3_11 rfl rfl rfl (by decide +kernel) ⟨Nat.le_of_ble_eq_true rfl, Nat.le_of_ble_eq_true rfl⟩) (pv_PV12 hPc hKc hDc (q0 := 0) rfl) rfl rfl hl.1 rfl (lv_room (Nat.le_of_ble_eq_true rfl)) dX12_unit_31 ⟨Nat.le_of_ble_eq_true rfl, Nat.le_of_ble_eq_true rfl⟩) hS (fun q _ h => hFc q h) hFc (fun u t H1 locs ht hvm hwra90 hB hz1 hk1 hS => ?_)
        have hkra90_0 : ((0 : Int32)).toInt = 0 := by decide
        have hkra90_1 : ((9 : Int32)).toInt = 9 := by decide
        obtain ⟨fn91, fn92, fn93, pt0_ra90, hP1, hK1, hD1⟩ := hB
        rw [ht] at hP1
        obtain ⟨hP2, hD2⟩ := va_join (wr := (wd_d0032b31 h1 g0 f18)) (w1 := (wd_c62683a8 h0 v0 h1 v1 x84 x85 x86 h2 h3 h4 r0 r1 r2 r3 v3 v4 r4 r5 r6 r7 v5 r8 r9 v6 v7 r10 r11 v8 v9 r12 v10 v11 r13 v12 w13 r14 v14 v15 r15 r16 r17 r18 r19 r20 v16 r21 r22 r23 v17 h2 g1 fn91 h3 g2 fn92 h4 g3 fn93)) hP hD [0, 2, 3, 4] [1] rfl rfl (by decide) (by decide) hk1 hFc hP1 hD1
        clear hP hD hPc hDc hKc hFc hP1 hK1 hD1 hk1 hz1
        generalize H1 = H at hP2 hS ⊢
        have hP := hP2.sub (ws' := (wd_d906eaf1 h0 v0 h1 v1 x84 x85 x86 h2 h3 h4 r0 r1 r2 r3 v3 v4 r4 r5 r6 r7 v5 r8 r9 v6 v7 r10 r11 v8 v9 r12 v10 v11 r13 v12 w13 r14 v14 v15 r15 r16 r17 r18 r19 r20 v16 r21 r22 r23 v17 h1 g0 f18 h2 g1 fn91 h3 g2 fn92 h4 g3 fn93)) [1, 0, 2, 3, 4] rfl
        have hD := hD2.sub (ws' := (wd_d906eaf1 h0 v0 h1 v1 x84 x85 x86 h2 h3 h4 r0 r1 r2 r3 v3 v4 r4 r5 r6 r7 v5 r8 r9 v6 v7 r10 r11 v8 v9 r12 v10 v11 r13 v12 w13 r14 v14 v15 r15 r16 r17 r18 r19 r20 v16 r21 r22 r23 v17 h1 g0 f18 h2 g1 fn91 h3 g2 fn92 h4 g3 fn93)) [1, 0, 2, 3, 4] (by decide) rfl
        clear hP2 hD2
        have hgF := hgF.put pt0_ra90
        have hxl := hgF.1
        have hxs := pt0_ra90.step
        refine lv_aload_n hx hb dX12_unit_34 rfl (lv_at hl 1 rfl) ?_
        refine lv_dup hx hb dX12_unit_35 rfl ?_
        refine va_get (D := (dC, dI)) (ci := 12) (v := .int x86) (C := RX12) (T := TX12) (N := 48) hx hb hts (fun _ h => List.mem_cons_of_mem _ (List.mem_append_right _ h)) hown hK hP 0 rfl rfl 5 (by decide) (hts (.fieldLink RX12 125 "LeftArgumentsModel" "deep" "I") (List.mem_cons_of_mem _ (List.mem_append_left _ (List.mem_of_getElem? (i := 27) rfl)))) (fun _ h9 => h9) rfl dX12_unit_36 ?_
        refine lv_iconst (v := 1) hx hb dX12_unit_39 (by decide) ?_
        refine lv_isub hx hb dX12_unit_40 ?_
        refine lv_topi (fun t94 et94 => ?_)
        refine va_put (D := (dC, dI)) (ci := 12) (v := .int t94) (ty := .int) (C := RX12) (T := TX12) (N := 48) hx hb hts (fun _ h => List.mem_cons_of_mem _ (List.mem_append_right _ h)) tyX12 tyX12_ok nmX12 hown hK hP hD hS 0 rfl rfl 5 (by decide) (hts (.fieldLink RX12 125 "LeftArgumentsModel" "deep" "I") (List.mem_cons_of_mem _ (List.mem_append_left _ (List.mem_of_getElem? (i := 27) rfl)))) (fun _ h9 => h9) rfl (by decide +kernel) rfl rfl (Nat.le_of_ble_eq_true rfl) dX12_unit_41 (fun H locs hP hD hS => ?_)
        have hP : va_P (dC, dI) vwCl (wd_d906eaf1 h0 v0 h1 v1 x84 x85 t94 h2 h3 h4 r0 r1 r2 r3 v3 v4 r4 r5 r6 r7 v5 r8 r9 v6 v7 r10 r11 v8 v9 r12 v10 v11 r13 v12 w13 r14 v14 v15 r15 r16 r17 r18 r19 r20 v16 r21 r22 r23 v17 h1 g0 f18 h2 g1 fn91 h3 g2 fn92 h4 g3 fn93) H := hP
        have hD : va_D A (wd_d906eaf1 h0 v0 h1 v1 x84 x85 t94 h2 h3 h4 r0 r1 r2 r3 v3 v4 r4 r5 r6 r7 v5 r8 r9 v6 v7 r10 r11 v8 v9 r12 v10 v11 r13 v12 w13 r14 v14 v15 r15 r16 r17 r18 r19 r20 v16 r21 r22 r23 v17 h1 g0 f18 h2 g1 fn91 h3 g2 fn92 h4 g3 fn93) := hD
        refine lv_goto (tgt := 94) hx hb dX12_unit_44 (by decide) ?_
        subst hQ
        have hP9 := hP.sub (ws' := (wd_d906eaf1 h0 v0 h1 v1 x84 x85 t94 h2 h3 h4 r0 r1 r2 r3 v3 v4 r4 r5 r6 r7 v5 r8 r9 v6 v7 r10 r11 v8 v9 r12 v10 v11 r13 v12 w13 r14 v14 v15 r15 r16 r17 r18 r19 r20 v16 r21 r22 r23 v17 h1 g0 f18 h2 g1 fn91 h3 g2 fn92 h4 g3 fn93)) [0, 1, 2, 3, 4] rfl
        have hD9 := hD.sub (ws' := (wd_d906eaf1 h0 v0 h1 v1 x84 x85 t94 h2 h3 h4 r0 r1 r2 r3 v3 v4 r4 r5 r6 r7 v5 r8 r9 v6 v7 r10 r11 v8 v9 r12 v10 v11 r13 v12 w13 r14 v14 v15 r15 r16 r17 r18 r19 r20 v16 r21 r22 r23 v17 h1 g0 f18 h2 g1 fn91 h3 g2 fn92 h4 g3 fn93)) [0, 1, 2, 3, 4] (by decide) rfl
        have hK9 := hK.sub (tys' := []) [] rfl
        exact W.vret hx hb hr (fun t ht hW => ⟨⟨(), rfl, trivial, Or.inr (⟨x84, x85, t94, fn91, fn92, fn93, oa_x84, by first | omega | decide, oa_x85, ob_x85, by constructor <;> omega, by exact hgF, by show pg_unitF f18 v1.toInt 3 true (pg_unit f18 v1.toInt 2) (pg_con f18 v1.toInt (pg_unit f18 v1.toInt 2)) _ = _; first | (apply pg_unitF.not <;> first | assumption | omega) | (apply pg_unitF.par1 <;> first | assumption | omega) | (apply pg_unitF.par0 <;> first | assumption | omega) | (apply pg_unitF.deep <;> first | assumption | omega) | (apply pg_unitF.sum1 <;> first | assumption | omega) | (apply pg_unitF.sum0 <;> first | assumption | omega), by rw [ht]; exact hP9, va_K.moved hW.alike hK9, hD9⟩)⟩, hS.F ht⟩) hS.2.2 dX12_unit_94
def q_X12_goOnAnd_4 : List Cond := .code yX12_goOnAnd cX12_goOnAnd 1 none :: (([.fieldLink RX12 119 "LeftArgumentsModel" "wrong" "I", .code yX12_look cX12_look 1 (some .int), .code yX12_here cX12_here 1 (some .int), .fieldLink RX12 112 "LeftArgumentsModel" "at" "I", .fieldLink RX12 109 "LeftArgumentsModel" "size" "I", .fieldLink RX12 9 "LeftArgumentsModel" "tape" "[I", .initialized RX12, .instanceMethod yX12_here, .selects RX12 yX12_here yX12_here, .methodLink RX12 115 yX12_here, .instanceMethod yX12_look, .selects RX12 yX12_look yX12_look, .methodLink RX12 131 yX12_look, .code yX12_unit cX12_unit 2 none, .code yX12_sum cX12_sum 2 none, .code yX12_term cX12_term 2 none, .code yX12_atom cX12_atom 2 none, .code yX12_isDigit cX12_isDigit 1 (some .boolean), .static yX12_isDigit, .methodLink RX12 134 yX12_isDigit, .code yX12_letterOf cX12_letterOf 1 (some .int), .static yX12_letterOf, .methodLink RX12 145 yX12_letterOf, .code yX12_bad cX12_bad 1 none, .instanceMethod yX12_bad, .selects RX12 yX12_bad yX12_bad, .methodLink RX12 128 yX12_bad, .code yX12_opens cX12_opens 1 none, .fieldLink RX12 125 "LeftArgumentsModel" "deep" "I", .instanceMethod yX12_opens, .selects RX12 yX12_opens yX12_opens, .methodLink RX12 149 yX12_opens, .code yX12_put cX12_put 3 none, .fieldLink RX12 13 "LeftArgumentsModel" "code" "[I", .fieldLink RX12 122 "LeftArgumentsModel" "text" "I", .fieldLink RX12 19 "LeftArgumentsModel" "codes" "[I", .fieldLink RX12 16 "LeftArgumentsModel" "value" "[I", .instanceMethod yX12_put, .selects RX12 yX12_put yX12_put, .methodLink RX12 141 yX12_put, .code yX12_plainNumber cX12_plainNumber 3 (some .int), .instanceMethod yX12_plainNumber, .selects RX12 yX12_plainNumber yX12_plainNumber, .methodLink RX12 138 yX12_plainNumber, .instanceMethod yX12_atom, .selects RX12 yX12_atom yX12_atom, .methodLink RX12 159 yX12_atom, .instanceMethod yX12_term, .selects RX12 yX12_term yX12_term, .methodLink RX12 162 yX12_term, .instanceMethod yX12_sum, .selects RX12 yX12_sum yX12_sum, .methodLink RX12 152 yX12_sum, .code yX12_closes cX12_closes 2 none, .instanceMethod yX12_closes, .selects RX12 yX12_closes yX12_closes, .methodLink RX12 155 yX12_closes, .code yX12_compare cX12_compare 2 none, .code yX12_isSign cX12_isSign 1 (some .boolean), .static yX12_isSign, .methodLink RX12 165 yX12_isSign, .instanceMethod yX12_compare, .selects RX12 yX12_compare yX12_compare, .methodLink RX12 174 yX12_compare, .code yX12_condition cX12_condition 1 none, .instanceMethod yX12_unit, .selects RX12 yX12_unit yX12_unit, .methodLink RX12 168 yX12_unit, .code yX12_goOnAnd cX12_goOnAnd 1 none, .instanceMethod yX12_goOnAnd, .selects RX12 yX12_goOnAnd yX12_goOnAnd, .methodLink RX12 177 yX12_goOnAnd, .code yX12_goOnOr cX12_goOnOr 1 none, .instanceMethod yX12_goOnOr, .selects RX12 yX12_goOnOr yX12_goOnOr, .methodLink RX12 180 yX12_goOnOr, .instanceMethod yX12_condition, .selects RX12 yX12_condition yX12_condition, .methodLink RX12 171 yX12_condition] : List Cond) ++ wsX120)
set_option maxRecDepth 20000 in
theorem g_X12_goOnAnd_4_0 : GoodIn q_X12_goOnAnd_4 (wsV RX12 131 RX12 yX12_look q_X12_look) := goodIn_app (goodIn_r _ [13, 11, 12, 7] rfl (by decide +kernel)) (goodIn_ca (goodIn_r (.code yX12_look cX12_look 1 (some .int) :: [.code yX12_here cX12_here 1 (some .int), .fieldLink RX12 112 "LeftArgumentsModel" "at" "I", .fieldLink RX12 109 "LeftArgumentsModel" "size" "I", .fieldLink RX12 9 "LeftArgumentsModel" "tape" "[I", .initialized RX12, .instanceMethod yX12_here, .selects RX12 yX12_here yX12_here, .methodLink RX12 115 yX12_here]) [2, 3, 4, 5, 6, 7, 8, 9, 10] rfl (by decide +kernel)) (goodIn_sub (fun _ h => List.mem_cons_of_mem _ (List.mem_append_right _ h)) gwX12))
set_option maxRecDepth 20000 in
theorem g_X12_goOnAnd_4_1 : GoodIn q_X12_goOnAnd_4 (wsV RX12 168 RX12 yX12_unit q_X12_unit_3) := goodIn_app (goodIn_r _ [68, 66, 67, 7] rfl (by decide +kernel)) (goodIn_ca (goodIn_r (.code yX12_unit cX12_unit 2 none :: [.code yX12_look cX12_look 1 (some .int), .code yX12_here cX12_here 1 (some .int), .fieldLink RX12 112 "LeftArgumentsModel" "at" "I", .fieldLink RX12 109 "LeftArgumentsModel" "size" "I", .fieldLink RX12 9 "LeftArgumentsModel" "tape" "[I", .initialized RX12, .instanceMethod yX12_here, .selects RX12 yX12_here yX12_here, .methodLink RX12 115 yX12_here, .instanceMethod yX12_look, .selects RX12 yX12_look yX12_look, .methodLink RX12 131 yX12_look, .code yX12_sum cX12_sum 2 none, .code yX12_term cX12_term 2 none, .code yX12_atom cX12_atom 2 none, .code yX12_isDigit cX12_isDigit 1 (some .boolean), .static yX12_isDigit, .methodLink RX12 134 yX12_isDigit, .code yX12_letterOf cX12_letterOf 1 (some .int), .static yX12_letterOf, .methodLink RX12 145 yX12_letterOf, .code yX12_bad cX12_bad 1 none, .fieldLink RX12 119 "LeftArgumentsModel" "wrong" "I", .instanceMethod yX12_bad, .selects RX12 yX12_bad yX12_bad, .methodLink RX12 128 yX12_bad, .code yX12_opens cX12_opens 1 none, .fieldLink RX12 125 "LeftArgumentsModel" "deep" "I", .instanceMethod yX12_opens, .selects RX12 yX12_opens yX12_opens, .methodLink RX12 149 yX12_opens, .code yX12_put cX12_put 3 none, .fieldLink RX12 13 "LeftArgumentsModel" "code" "[I", .fieldLink RX12 122 "LeftArgumentsModel" "text" "I", .fieldLink RX12 19 "LeftArgumentsModel" "codes" "[I", .fieldLink RX12 16 "LeftArgumentsModel" "value" "[I", .instanceMethod yX12_put, .selects RX12 yX12_put yX12_put, .methodLink RX12 141 yX12_put, .code yX12_plainNumber cX12_plainNumber 3 (some .int), .instanceMethod yX12_plainNumber, .selects RX12 yX12_plainNumber yX12_plainNumber, .methodLink RX12 138 yX12_plainNumber, .instanceMethod yX12_atom, .selects RX12 yX12_atom yX12_atom, .methodLink RX12 159 yX12_atom, .instanceMethod yX12_term, .selects RX12 yX12_term yX12_term, .methodLink RX12 162 yX12_term, .instanceMethod yX12_sum, .selects RX12 yX12_sum yX12_sum, .methodLink RX12 152 yX12_sum, .code yX12_closes cX12_closes 2 none, .instanceMethod yX12_closes, .selects RX12 yX12_closes yX12_closes, .methodLink RX12 155 yX12_closes, .code yX12_compare cX12_compare 2 none, .code yX12_isSign cX12_isSign 1 (some .boolean), .static yX12_isSign, .methodLink RX12 165 yX12_isSign, .instanceMethod yX12_compare, .selects RX12 yX12_compare yX12_compare, .methodLink RX12 174 yX12_compare, .code yX12_condition cX12_condition 1 none, .code yX12_unit cX12_unit 2 none, .instanceMethod yX12_unit, .selects RX12 yX12_unit yX12_unit, .methodLink RX12 168 yX12_unit, .code yX12_goOnAnd cX12_goOnAnd 1 none, .instanceMethod yX12_goOnAnd, .selects RX12 yX12_goOnAnd yX12_goOnAnd, .methodLink RX12 177 yX12_goOnAnd, .code yX12_goOnOr cX12_goOnOr 1 none, .instanceMethod yX12_goOnOr, .selects RX12 yX12_goOnOr yX12_goOnOr, .methodLink RX12 180 yX12_goOnOr, .instanceMethod yX12_condition, .selects RX12 yX12_condition yX12_condition, .methodLink RX12 171 yX12_condition]) [14, 2, 3, 4, 5, 6, 7, 8, 9, 10, 11, 12, 13, 15, 16, 17, 18, 19, 20, 21, 22, 23, 24, 1, 25, 26, 27, 28, 29, 30, 31, 32, 33, 34, 35, 36, 37, 38, 39, 40, 41, 42, 43, 44, 45, 46, 47, 48, 49, 50, 51, 52, 53, 54, 55, 56, 57, 58, 59, 60, 61, 62, 63, 64, 65, 14, 66, 67, 68, 69, 70, 71, 72, 73, 74, 75, 76, 77, 78, 79] rfl (by decide +kernel)) (goodIn_sub (fun _ h => List.mem_cons_of_mem _ (List.mem_append_right _ h)) gwX12))
set_option maxRecDepth 20000 in
theorem g_X12_goOnAnd_4_2 : GoodIn q_X12_goOnAnd_4 (wsV RX12 141 RX12 yX12_put q_X12_put) := goodIn_app (goodIn_r _ [40, 38, 39, 7] rfl (by decide +kernel)) (goodIn_ca (goodIn_r (.code yX12_put cX12_put 3 none :: [.fieldLink RX12 13 "LeftArgumentsModel" "code" "[I", .fieldLink RX12 122 "LeftArgumentsModel" "text" "I", .fieldLink RX12 19 "LeftArgumentsModel" "codes" "[I", .fieldLink RX12 16 "LeftArgumentsModel" "value" "[I"]) [33, 34, 35, 36, 37] rfl (by decide +kernel)) (goodIn_sub (fun _ h => List.mem_cons_of_mem _ (List.mem_append_right _ h)) gwX12))
set_option maxHeartbeats 4000000 in
set_option maxRecDepth 100000 in
theorem k_X12_goOnAnd_4 (l : Launch) (dC : Nat → ClassId) (dI : Nat → Nat → Nat) (h0 : Nat) (h1 : Nat) (h2 : Nat) (h3 : Nat) (h4 : Nat) (v0 : Int32) (v1 : Int32) (v2 : Int32) (r0 : Nat) (r1 : Nat) (r2 : Nat) (r3 : Nat) (v3 : Int32) (v4 : Int32) (r4 : Nat) (r5 : Nat) (r6 : Nat) (r7 : Nat) (v5 : Int32) (r8 : Nat) (r9 : Nat) (v6 : Int32) (v7 : Int32) (r10 : Nat) (r11 : Nat) (v8 : Int32) (v9 : Int32) (r12 : Nat) (v10 : Int32) (v11 : Int32) (r13 : Nat) (v12 : Int32) (w13 : Int64) (r14 : Nat) (v14 : Int32) (v15 : Int32) (r15 : Nat) (r16 : Nat) (r17 : Nat) (r18 : Nat) (r19 : Nat) (r20 : Nat) (v16 : Int32) (r21 : Nat) (r22 : Nat) (r23 : Nat) (v17 : Int32) (g0 : ClassId) (f18 : Nat → Int32) (g1 : ClassId) (f19 : Nat → Int32) (g2 : ClassId) (f20 : Nat → Int32) (g3 : ClassId) (f21 : Nat → Int32) (i_v1 : 0 ≤ v1.toInt ∧ v1.toInt ≤ 240) (i_v2 : 0 ≤ v2.toInt ∧ v2.toInt ≤ 240) (i_v3 : 0 ≤ v3.toInt ∧ v3.toInt ≤ 4) (i_v4 : 0 ≤ v4.toInt ∧ v4.toInt ≤ 4) (i_v5 : 0 ≤ v5.toInt ∧ v5.toInt ≤ 8) (i_v6 : 0 ≤ v6.toInt ∧ v6.toInt ≤ 8) (i_v7 : 0 ≤ v7.toInt ∧ v7.toInt ≤ 1) (i_v8 : -1 ≤ v8.toInt ∧ v8.toInt ≤ 3) (i_v12 : 0 ≤ v12.toInt ∧ v12.toInt ≤ 40) (i_v16 : 0 ≤ v16.toInt ∧ v16.toInt ≤ 10) (i_v17 : 0 ≤ v17.toInt ∧ v17.toInt ≤ 1) (ia_f18 : (∀ j, 0 ≤ (f18 j).toInt ∧ (f18 j).toInt ≤ 255)) (pp0 : 0 ≤ pm_x f21 v4 ∧ pm_x f21 v4 ≤ v2.toInt) (sz : Nat) : Met l yX12_goOnAnd q_X12_goOnAnd_4 ({ frames := 19, cells := 0, slots := 0, locals := 390 }) (va_Pc [.ref h0] (fun U => U.heap.size = sz ∧ va_P (dC, dI) vwCl (wd_d906eaf1 h0 v0 h1 v1 v2 (-1) 3 h2 h3 h4 r0 r1 r2 r3 v3 v4 r4 r5 r6 r7 v5 r8 r9 v6 v7 r10 r11 v8 v9 r12 v10 v11 r13 v12 w13 r14 v14 v15 r15 r16 r17 r18 r19 r20 v16 r21 r22 r23 v17 h1 g0 f18 h2 g1 f19 h3 g2 f20 h4 g3 f21) U.heap ∧ va_K (dC, dI) vwCl [(g0, .int), (g1, .int), (g2, .int), (g3, .int)] U ∧ va_D (fun _ => True) (wd_d906eaf1 h0 v0 h1 v1 v2 (-1) 3 h2 h3 h4 r0 r1 r2 r3 v3 v4 r4 r5 r6 r7 v5 r8 r9 v6 v7 r10 r11 v8 v9 r12 v10 v11 r13 v12 w13 r14 v14 v15 r15 r16 r17 r18 r19 r20 v16 r21 r22 r23 v17 h1 g0 f18 h2 g1 f19 h3 g2 f20 h4 g3 f21))) (va_Qv (fun (_ : Unit) => True) (fun (_ : Unit) (t : State) => (∃ (o_h0_3 : Int32) (o_h2 : Nat → Int32) (o_h3 : Nat → Int32) (o_h4 : Nat → Int32), 0 ≤ o_h0_3.toInt ∧ o_h0_3.toInt ≤ 240 ∧ (pm_x o_h4 v4 - pm_x f21 v4 ≤ o_h0_3.toInt - v2.toInt ∧ v2.toInt ≤ o_h0_3.toInt) ∧ (pm_R v4 1 0 10 f19 f20 f21 o_h2 o_h3 o_h4) ∧ (pg_loop f18 v1.toInt 38 38 (pg_unit f18 v1.toInt 3) 300 v2.toInt = (true, o_h0_3.toInt)) ∧ va_P (dC, dI) vwCl (wd_d906eaf1 h0 v0 h1 v1 o_h0_3 (-1) 3 h2 h3 h4 r0 r1 r2 r3 v3 v4 r4 r5 r6 r7 v5 r8 r9 v6 v7 r10 r11 v8 v9 r12 v10 v11 r13 v12 w13 r14 v14 v15 r15 r16 r17 r18 r19 r20 v16 r21 r22 r23 v17 h1 g0 f18 h2 g1 o_h2 h3 g2 o_h3 h4 g3 o_h4) t.heap ∧ va_K (dC, dI) vwCl [] t ∧ va_D (va_A (wd_d906eaf1 h0 v0 h1 v1 v2 (-1) 3 h2 h3 h4 r0 r1 r2 r3 v3 v4 r4 r5 r6 r7 v5 r8 r9 v6 v7 r10 r11 v8 v9 r12 v10 v11 r13 v12 w13 r14 v14 v15 r15 r16 r17 r18 r19 r20 v16 r21 r22 r23 v17 h1 g0 f18 h2 g1 f19 h3 g2 f20 h4 g3 f21) sz) (wd_d906eaf1 h0 v0 h1 v1 o_h0_3 (-1) 3 h2 h3 h4 r0 r1 r2 r3 v3 v4 r4 r5 r6 r7 v5 r8 r9 v6 v7 r10 r11 v8 v9 r12 v10 v11 r13 v12 w13 r14 v14 v15 r15 r16 r17 r18 r19 r20 v16 r21 r22 r23 v17 h1 g0 f18 h2 g1 o_h2 h3 g2 o_h3 h4 g3 o_h4)) ∨ (∃ (o_h0_3 : Int32) (o_h0_4 : Int32) (o_h0_5 : Int32) (o_h2 : Nat → Int32) (o_h3 : Nat → Int32) (o_h4 : Nat → Int32), 0 ≤ o_h0_3.toInt ∧ o_h0_3.toInt ≤ 243 ∧ 0 ≤ o_h0_4.toInt ∧ o_h0_4.toInt ≤ 240 ∧ (pm_x o_h4 v4 - pm_x f21 v4 ≤ o_h0_3.toInt - v2.toInt ∧ v2.toInt ≤ o_h0_3.toInt) ∧ (pm_F v4 f19 f20 f21 o_h2 o_h3 o_h4) ∧ (pg_loop f18 v1.toInt 38 38 (pg_unit f18 v1.toInt 3) 300 v2.toInt = (false, o_h0_4.toInt)) ∧ va_P (dC, dI) vwCl (wd_d906eaf1 h0 v0 h1 v1 o_h0_3 o_h0_4 o_h0_5 h2 h3 h4 r0 r1 r2 r3 v3 v4 r4 r5 r6 r7 v5 r8 r9 v6 v7 r10 r11 v8 v9 r12 v10 v11 r13 v12 w13 r14 v14 v15 r15 r16 r17 r18 r19 r20 v16 r21 r22 r23 v17 h1 g0 f18 h2 g1 o_h2 h3 g2 o_h3 h4 g3 o_h4) t.heap ∧ va_K (dC, dI) vwCl [] t ∧ va_D (va_A (wd_d906eaf1 h0 v0 h1 v1 v2 (-1) 3 h2 h3 h4 r0 r1 r2 r3 v3 v4 r4 r5 r6 r7 v5 r8 r9 v6 v7 r10 r11 v8 v9 r12 v10 v11 r13 v12 w13 r14 v14 v15 r15 r16 r17 r18 r19 r20 v16 r21 r22 r23 v17 h1 g0 f18 h2 g1 f19 h3 g2 f20 h4 g3 f21) sz) (wd_d906eaf1 h0 v0 h1 v1 o_h0_3 o_h0_4 o_h0_5 h2 h3 h4 r0 r1 r2 r3 v3 v4 r4 r5 r6 r7 v5 r8 r9 v6 v7 r10 r11 v8 v9 r12 v10 v11 r13 v12 w13 r14 v14 v15 r15 r16 r17 r18 r19 r20 v16 r21 r22 r23 v17 h1 g0 f18 h2 g1 o_h2 h3 g2 o_h3 h4 g3 o_h4))) (va_A (wd_d906eaf1 h0 v0 h1 v1 v2 (-1) 3 h2 h3 h4 r0 r1 r2 r3 v3 v4 r4 r5 r6 r7 v5 r8 r9 v6 v7 r10 r11 v8 v9 r12 v10 v11 r13 v12 w13 r14 v14 v15 r15 r16 r17 r18 r19 r20 v16 r21 r22 r23 v17 h1 g0 f18 h2 g1 f19 h3 g2 f20 h4 g3 f21) sz)) 0 0 (va_A (wd_d906eaf1 h0 v0 h1 v1 v2 (-1) 3 h2 h3 h4 r0 r1 r2 r3 v3 v4 r4 r5 r6 r7 v5 r8 r9 v6 v7 r10 r11 v8 v9 r12 v10 v11 r13 v12 w13 r14 v14 v15 r15 r16 r17 r18 r19 r20 v16 r21 r22 r23 v17 h1 g0 f18 h2 g1 f19 h3 g2 f20 h4 g3 f21) sz) := by
  refine Met.ofW (cc := cX12_goOnAnd) (maxL := 1) (ret := none) (by decide) rfl ?_
  intro p e s m args below meth c s₁ B hml hv
  obtain ⟨i_v1a, i_v1b⟩ := i_v1
  obtain ⟨i_v2a, i_v2b⟩ := i_v2
  obtain ⟨i_v3a, i_v3b⟩ := i_v3
  obtain ⟨i_v4a, i_v4b⟩ := i_v4
  obtain ⟨i_v5a, i_v5b⟩ := i_v5
  obtain ⟨i_v6a, i_v6b⟩ := i_v6
  obtain ⟨i_v7a, i_v7b⟩ := i_v7
  obtain ⟨i_v8a, i_v8b⟩ := i_v8
  obtain ⟨i_v12a, i_v12b⟩ := i_v12
  obtain ⟨i_v16a, i_v16b⟩ := i_v16
  obtain ⟨i_v17a, i_v17b⟩ := i_v17
  obtain ⟨rfl, hsz, hP, hK, hD0⟩ := hv
  have hx := B.exec
  have hb := B.bytes
  have hr := B.returns
  have hts := atoms_spec (ws := q_X12_goOnAnd_4) B.pre
  have hown : s.vm.findClass RX12 = some m.cls := findClass_of_methodNamed B.named
  have hlocks := B.notSynchronized
  subst hsz
  have hD := hD0.self (sz := s.heap.size)
  generalize hAe : va_A (wd_d906eaf1 h0 v0 h1 v1 v2 (-1) 3 h2 h3 h4 r0 r1 r2 r3 v3 v4 r4 r5 r6 r7 v5 r8 r9 v6 v7 r10 r11 v8 v9 r12 v10 v11 r13 v12 w13 r14 v14 v15 r15 r16 r17 r18 r19 r20 v16 r21 r22 r23 v17 h1 g0 f18 h2 g1 f19 h3 g2 f20 h4 g3 f21) s.heap.size = A at hD ⊢
  have hA : ∀ q : Nat, s.heap.size ≤ q → A q := fun q h => by rw [← hAe]; exact Or.inr h
  have hS : va_S A s.heap s.heap [] := va_S.rf
  generalize hQ : (MQ below _ _ s 0 0 A) = Q
  have hl := lv_entry ([.ref h0]) (n := 1) (Nat.le_of_ble_eq_true rfl)
  rw [lg_entry_eq]
  generalize (lg_sl ([.ref h0]) ++ List.replicate (1 - (lg_sl ([.ref h0])).length) Slot.unset).toArray = ls at hl ⊢
  have hl : lv_has ls 1 [(0, .ref h0)] := hl
  obtain ⟨H, hH⟩ : ∃ H : Heap, H = s.heap := ⟨_, rfl⟩
  obtain ⟨locs, hlocs⟩ : ∃ y : List Loc, y = [] := ⟨_, rfl⟩
  have hS : va_S A s.heap H locs := by rw [hH, hlocs]; exact va_S.rf
  have hP : va_P (dC, dI) vwCl (wd_d906eaf1 h0 v0 h1 v1 v2 (-1) 3 h2 h3 h4 r0 r1 r2 r3 v3 v4 r4 r5 r6 r7 v5 r8 r9 v6 v7 r10 r11 v8 v9 r12 v10 v11 r13 v12 w13 r14 v14 v15 r15 r16 r17 r18 r19 r20 v16 r21 r22 r23 v17 h1 g0 f18 h2 g1 f19 h3 g2 f20 h4 g3 f21) H := by rw [hH]; exact hP
  rw [← hH, ← hlocs]
  have px1 := pp0.1; have px2 := pp0.2
  have hgR := pm_R.refl (L := 1) v4 f19 f20 f21 px1
  have hgF := hgR.1
  have hL9 : ∀ (n9 : Nat), ∀ (x1 : Int32) (fn2 : Nat → Int32) (fn3 : Nat → Int32) (fn4 : Nat → Int32) (H : Heap) (locs : List Loc) (ls : Array Slot), 0 ≤ x1.toInt → x1.toInt ≤ 240 → (pm_x fn4 v4 - pm_x f21 v4 ≤ x1.toInt - v2.toInt ∧ v2.toInt ≤ x1.toInt) → (pm_R v4 1 0 10 f19 f20 f21 fn2 fn3 fn4) → (pg_L f18 v1.toInt 38 38 (pg_unit f18 v1.toInt 3) x1.toInt (pg_loop f18 v1.toInt 38 38 (pg_unit f18 v1.toInt 3) 300 v2.toInt)) → (300 - x1.toInt).toNat < n9 → va_P (dC, dI) vwCl (wd_d906eaf1 h0 v0 h1 v1 x1 (-1) 3 h2 h3 h4 r0 r1 r2 r3 v3 v4 r4 r5 r6 r7 v5 r8 r9 v6 v7 r10 r11 v8 v9 r12 v10 v11 r13 v12 w13 r14 v14 v15 r15 r16 r17 r18 r19 r20 v16 r21 r22 r23 v17 h1 g0 f18 h2 g1 fn2 h3 g2 fn3 h4 g3 fn4) H → va_D A (wd_d906eaf1 h0 v0 h1 v1 x1 (-1) 3 h2 h3 h4 r0 r1 r2 r3 v3 v4 r4 r5 r6 r7 v5 r8 r9 v6 v7 r10 r11 v8 v9 r12 v10 v11 r13 v12 w13 r14 v14 v15 r15 r16 r17 r18 r19 r20 v16 r21 r22 r23 v17 h1 g0 f18 h2 g1 fn2 h3 g2 fn3 h4 g3 fn4) → va_S A s.heap H locs → lv_has ls 1 [(0, .ref h0)] → W p l e ({ frames := 19, cells := 0, slots := 0, locals := 390 }) s m ([.ref h0] : List Value).toArray below meth c H locs 0 0 Q (F0 m 0 ls []) := by
    intro n9
    induction n9 with
    | zero => intro x1 fn2 fn3 fn4 H locs ls qa_x1 qb_x1 gh0_hL9 gh1_hL9 gh2_hL9 hm9 hP hD hS hl; exact absurd hm9 (Nat.not_lt_zero _)
    | succ n9 ih_hL9 =>
      intro x1 fn2 fn3 fn4 H locs ls qa_x1 qb_x1 gh0_hL9 gh1_hL9 gh2_hL9 hm9 hP hD hS hl
      have hgR := gh1_hL9; have hgF := hgR.1; have hxl := hgF.1
      refine lv_aload_n hx hb dX12_goOnAnd_0 rfl (lv_at hl 0 rfl) ?_
      refine va_get (D := (dC, dI)) (ci := 12) (v := .int (-1)) (C := RX12) (T := TX12) (N := 48) hx hb hts (fun _ h => List.mem_cons_of_mem _ (List.mem_append_right _ h)) hown hK hP 0 rfl rfl 4 (by decide) (hts (.fieldLink RX12 119 "LeftArgumentsModel" "wrong" "I") (List.mem_cons_of_mem _ (List.mem_append_left _ (List.mem_of_getElem? (i := 0) rfl)))) (fun _ h9 => h9) rfl dX12_goOnAnd_1 ?_
      refine lv_iconst (v := (-1)) hx hb dX12_goOnAnd_4 (by decide) ?_
      refine lv_icmp_ne (tgt := 41) hx hb dX12_goOnAnd_5 (by decide) (fun c => absurd (by decide) c) (fun _ => ?_)
      refine lv_aload_n hx hb dX12_goOnAnd_8 rfl (lv_at hl 0 rfl) ?_
      have hPc := hP.sub (ws' := (wd_f4cd022e h0 v0 h1 v1 x1 (-1) 3 h2 h3 h4 r0 r1 r2 r3 v3 v4 r4 r5 r6 r7 v5 r8 r9 v6 v7 r10 r11 v8 v9 r12 v10 v11 r13 v12 w13 r14 v14 v15 r15 r16 r17 r18 r19 r20 v16 r21 r22 r23 v17 h1 g0 f18)) [0, 1] rfl
      have hDc := hD.sub (ws' := (wd_f4cd022e h0 v0 h1 v1 x1 (-1) 3 h2 h3 h4 r0 r1 r2 r3 v3 v4 r4 r5 r6 r7 v5 r8 r9 v6 v7 r10 r11 v8 v9 r12 v10 v11 r13 v12 w13 r14 v14 v15 r15 r16 r17 r18 r19 r20 v16 r21 r22 r23 v17 h1 g0 f18)) [0, 1] (by decide) rfl
      have hKc := hK.sub (tys' := [(g0, .int)]) [0] rfl
      have hFc := va_free (wc := (wd_f4cd022e h0 v0 h1 v1 x1 (-1) 3 h2 h3 h4 r0 r1 r2 r3 v3 v4 r4 r5 r6 r7 v5 r8 r9 v6 v7 r10 r11 v8 v9 r12 v10 v11 r13 v12 w13 r14 v14 v15 r15 r16 r17 r18 r19 r20 v16 r21 r22 r23 v17 h1 g0 f18)) hD hS hA [0, 1] rfl
      refine va_calli (va_runV (As := []) (rest := []) ⟨hx, hb, hml, hown, hts⟩ (k_X12_look l dC dI h0 h1 v0 v1 x1 ((-1)) 3 h2 h3 h4 r0 r1 r2 r3 v3 v4 r4 r5 r6 r7 v5 r8 r9 v6 v7 r10 r11 v8 v9 r12 v10 v11 r13 v12 w13 r14 v14 v15 r15 r16 r17 r18 r19 r20 v16 r21 r22 r23 v17 g0 f18 ⟨i_v1a, i_v1b⟩ ⟨qa_x1, qb_x1⟩ ⟨i_v3a, i_v3b⟩ ⟨i_v4a, i_v4b⟩ ⟨i_v5a, i_v5b⟩ ⟨i_v6a, i_v6b⟩ ⟨i_v7a, i_v7b⟩ ⟨i_v8a, i_v8b⟩ ⟨i_v12a, i_v12b⟩ ⟨i_v16a, i_v16b⟩ ⟨i_v17a, i_v17b⟩ ia_f18 H.size) (cwV 0 hts g_X12_goOnAnd_4_0 rfl rfl rfl (by decide +kernel) ⟨Nat.le_of_ble_eq_true rfl, Nat.le_of_ble_eq_true rfl⟩) (pv_PV12 hPc hKc hDc (q0 := 0) rfl) rfl rfl hl.1 rfl (lv_room (Nat.le_of_ble_eq_true rfl)) dX12_goOnAnd_9 ⟨Nat.le_of_ble_eq_true rfl, Nat.le_of_ble_eq_true rfl⟩) hS (fun q _ h => hFc q h) hFc (fun ra10 u t H1 locs ht hvm hwra10 hB hz1 hk1 hS => ?_)
      try rw [hwra10] at hB
      have hkra10_0 : (((-1) : Int32)).toInt = -1 := by decide
      have hkra10_1 : ((3 : Int32)).toInt = 3 := by decide
      rcases hB with hB | hB
      · skip
        obtain ⟨x11, oa_x11, ob_x11, pt0_ra10, pt1_ra10, pt2_ra10, pt3_ra10, pt4_ra10, pt5_ra10, pt6_ra10, hP1, hK1, hD1⟩ := hB
        rw [ht] at hP1
        obtain ⟨hP2, hD2⟩ := va_join (wr := (wd_ad0642e8 h2 g1 fn2 h3 g2 fn3 h4 g3 fn4)) (w1 := (wd_f4cd022e h0 v0 h1 v1 x11 (-1) 3 h2 h3 h4 r0 r1 r2 r3 v3 v4 r4 r5 r6 r7 v5 r8 r9 v6 v7 r10 r11 v8 v9 r12 v10 v11 r13 v12 w13 r14 v14 v15 r15 r16 r17 r18 r19 r20 v16 r21 r22 r23 v17 h1 g0 f18)) hP hD [0, 1] [2, 3, 4] rfl rfl (by decide) (by decide) hk1 hFc hP1 hD1
        clear hP hD hPc hDc hKc hFc hP1 hK1 hD1 hk1 hz1
        generalize H1 = H at hP2 hS ⊢
        have hP := hP2.sub (ws' := (wd_d906eaf1 h0 v0 h1 v1 x11 (-1) 3 h2 h3 h4 r0 r1 r2 r3 v3 v4 r4 r5 r6 r7 v5 r8 r9 v6 v7 r10 r11 v8 v9 r12 v10 v11 r13 v12 w13 r14 v14 v15 r15 r16 r17 r18 r19 r20 v16 r21 r22 r23 v17 h1 g0 f18 h2 g1 fn2 h3 g2 fn3 h4 g3 fn4)) [3, 4, 0, 1, 2] rfl
        have hD := hD2.sub (ws' := (wd_d906eaf1 h0 v0 h1 v1 x11 (-1) 3 h2 h3 h4 r0 r1 r2 r3 v3 v4 r4 r5 r6 r7 v5 r8 r9 v6 v7 r10 r11 v8 v9 r12 v10 v11 r13 v12 w13 r14 v14 v15 r15 r16 r17 r18 r19 r20 v16 r21 r22 r23 v17 h1 g0 f18 h2 g1 fn2 h3 g2 fn3 h4 g3 fn4)) [3, 4, 0, 1, 2] (by decide) rfl
        clear hP2 hD2
        obtain rfl : ra10 = ((-1) : Int32) := pv_cs (by decide) pt0_ra10 pt1_ra10
        refine lv_bipush (v := 38) hx hb dX12_goOnAnd_12 (by decide) ?_
        refine lv_icmp_ne (tgt := 41) hx hb dX12_goOnAnd_14 (by decide) (fun _ => ?_) (fun c => absurd c (by decide))
        subst hQ
        have hP9 := hP.sub (ws' := (wd_d906eaf1 h0 v0 h1 v1 x11 (-1) 3 h2 h3 h4 r0 r1 r2 r3 v3 v4 r4 r5 r6 r7 v5 r8 r9 v6 v7 r10 r11 v8 v9 r12 v10 v11 r13 v12 w13 r14 v14 v15 r15 r16 r17 r18 r19 r20 v16 r21 r22 r23 v17 h1 g0 f18 h2 g1 fn2 h3 g2 fn3 h4 g3 fn4)) [0, 1, 2, 3, 4] rfl
        have hD9 := hD.sub (ws' := (wd_d906eaf1 h0 v0 h1 v1 x11 (-1) 3 h2 h3 h4 r0 r1 r2 r3 v3 v4 r4 r5 r6 r7 v5 r8 r9 v6 v7 r10 r11 v8 v9 r12 v10 v11 r13 v12 w13 r14 v14 v15 r15 r16 r17 r18 r19 r20 v16 r21 r22 r23 v17 h1 g0 f18 h2 g1 fn2 h3 g2 fn3 h4 g3 fn4)) [0, 1, 2, 3, 4] (by decide) rfl
        have hK9 := hK.sub (tys' := []) [] rfl
        exact W.vret hx hb hr (fun t ht hW => ⟨⟨(), rfl, trivial, Or.inl ⟨x11, fn2, fn3, fn4, oa_x11, ob_x11, by constructor <;> omega, by exact hgR.mono (by decide), by first | assumption | (apply pg_lp.stop <;> first | assumption | omega) | (apply pg_L.stop <;> first | assumption | omega), by rw [ht]; exact hP9, va_K.moved hW.alike hK9, hD9⟩⟩, hS.F ht⟩) hS.2.2 dX12_goOnAnd_41
      · skip
        obtain ⟨x12, oa_x12, ob_x12, pt0_ra10, pt1_ra10, pt2_ra10, pt3_ra10, pt4_ra10, pt5_ra10, pt6_ra10, pt7_ra10, hP1, hK1, hD1⟩ := hB
        rw [ht] at hP1
        obtain ⟨hP2, hD2⟩ := va_join (wr := (wd_ad0642e8 h2 g1 fn2 h3 g2 fn3 h4 g3 fn4)) (w1 := (wd_f4cd022e h0 v0 h1 v1 x12 (-1) 3 h2 h3 h4 r0 r1 r2 r3 v3 v4 r4 r5 r6 r7 v5 r8 r9 v6 v7 r10 r11 v8 v9 r12 v10 v11 r13 v12 w13 r14 v14 v15 r15 r16 r17 r18 r19 r20 v16 r21 r22 r23 v17 h1 g0 f18)) hP hD [0, 1] [2, 3, 4] rfl rfl (by decide) (by decide) hk1 hFc hP1 hD1
        clear hP hD hPc hDc hKc hFc hP1 hK1 hD1 hk1 hz1
        generalize H1 = H at hP2 hS ⊢
        have hP := hP2.sub (ws' := (wd_d906eaf1 h0 v0 h1 v1 x12 (-1) 3 h2 h3 h4 r0 r1 r2 r3 v3 v4 r4 r5 r6 r7 v5 r8 r9 v6 v7 r10 r11 v8 v9 r12 v10 v11 r13 v12 w13 r14 v14 v15 r15 r16 r17 r18 r19 r20 v16 r21 r22 r23 v17 h1 g0 f18 h2 g1 fn2 h3 g2 fn3 h4 g3 fn4)) [3, 4, 0, 1, 2] rfl
        have hD := hD2.sub (ws' := (wd_d906eaf1 h0 v0 h1 v1 x12 (-1) 3 h2 h3 h4 r0 r1 r2 r3 v3 v4 r4 r5 r6 r7 v5 r8 r9 v6 v7 r10 r11 v8 v9 r12 v10 v11 r13 v12 w13 r14 v14 v15 r15 r16 r17 r18 r19 r20 v16 r21 r22 r23 v17 h1 g0 f18 h2 g1 fn2 h3 g2 fn3 h4 g3 fn4)) [3, 4, 0, 1, 2] (by decide) rfl
        clear hP2 hD2
        refine lv_bipush (v := 38) hx hb dX12_goOnAnd_12 (by decide) ?_
        refine lv_icmp_ne (tgt := 41) hx hb dX12_goOnAnd_14 (by decide) (fun c13 => ?_) (fun c13 => ?_)
        · skip
          have fc13 : ¬ (ra10.toInt = 38) := fun h9 => c13 (Int32.toInt_inj.mp h9)
          subst hQ
          have hP9 := hP.sub (ws' := (wd_d906eaf1 h0 v0 h1 v1 x12 (-1) 3 h2 h3 h4 r0 r1 r2 r3 v3 v4 r4 r5 r6 r7 v5 r8 r9 v6 v7 r10 r11 v8 v9 r12 v10 v11 r13 v12 w13 r14 v14 v15 r15 r16 r17 r18 r19 r20 v16 r21 r22 r23 v17 h1 g0 f18 h2 g1 fn2 h3 g2 fn3 h4 g3 fn4)) [0, 1, 2, 3, 4] rfl
          have hD9 := hD.sub (ws' := (wd_d906eaf1 h0 v0 h1 v1 x12 (-1) 3 h2 h3 h4 r0 r1 r2 r3 v3 v4 r4 r5 r6 r7 v5 r8 r9 v6 v7 r10 r11 v8 v9 r12 v10 v11 r13 v12 w13 r14 v14 v15 r15 r16 r17 r18 r19 r20 v16 r21 r22 r23 v17 h1 g0 f18 h2 g1 fn2 h3 g2 fn3 h4 g3 fn4)) [0, 1, 2, 3, 4] (by decide) rfl
          have hK9 := hK.sub (tys' := []) [] rfl
          exact W.vret hx hb hr (fun t ht hW => ⟨⟨(), rfl, trivial, Or.inl ⟨x12, fn2, fn3, fn4, oa_x12, by first | omega | decide, by constructor <;> omega, by exact hgR.mono (by decide), by first | assumption | (apply pg_lp.stop <;> first | assumption | omega) | (apply pg_L.stop <;> first | assumption | omega), by rw [ht]; exact hP9, va_K.moved hW.alike hK9, hD9⟩⟩, hS.F ht⟩) hS.2.2 dX12_goOnAnd_41
        · skip
          have fc13 : ra10.toInt = 38 := congrArg Int32.toInt c13
          refine lv_aload_n hx hb dX12_goOnAnd_17 rfl (lv_at hl 0 rfl) ?_
          refine lv_dup hx hb dX12_goOnAnd_18 rfl ?_
          refine va_get (D := (dC, dI)) (ci := 12) (v := .int x12) (C := RX12) (T := TX12) (N := 48) hx hb hts (fun _ h => List.mem_cons_of_mem _ (List.mem_append_right _ h)) hown hK hP 0 rfl rfl 3 (by decide) (hts (.fieldLink RX12 112 "LeftArgumentsModel" "at" "I") (List.mem_cons_of_mem _ (List.mem_append_left _ (List.mem_of_getElem? (i := 3) rfl)))) (fun _ h9 => h9) rfl dX12_goOnAnd_19 ?_
          refine lv_iconst (v := 1) hx hb dX12_goOnAnd_22 (by decide) ?_
          refine lv_iadd hx hb dX12_goOnAnd_23 ?_
          refine lv_topi (fun t14 et14 => ?_)
          have gt14 : t14.toInt = x12.toInt + 1 := pv_add (a := x12.toInt) (b := 1) et14 rfl (by decide) (by omega) (by omega)
          refine va_put (D := (dC, dI)) (ci := 12) (v := .int t14) (ty := .int) (C := RX12) (T := TX12) (N := 48) hx hb hts (fun _ h => List.mem_cons_of_mem _ (List.mem_append_right _ h)) tyX12 tyX12_ok nmX12 hown hK hP hD hS 0 rfl rfl 3 (by decide) (hts (.fieldLink RX12 112 "LeftArgumentsModel" "at" "I") (List.mem_cons_of_mem _ (List.mem_append_left _ (List.mem_of_getElem? (i := 3) rfl)))) (fun _ h9 => h9) rfl (by decide +kernel) rfl rfl (Nat.le_of_ble_eq_true rfl) dX12_goOnAnd_24 (fun H locs hP hD hS => ?_)
          have hP : va_P (dC, dI) vwCl (wd_d906eaf1 h0 v0 h1 v1 t14 (-1) 3 h2 h3 h4 r0 r1 r2 r3 v3 v4 r4 r5 r6 r7 v5 r8 r9 v6 v7 r10 r11 v8 v9 r12 v10 v11 r13 v12 w13 r14 v14 v15 r15 r16 r17 r18 r19 r20 v16 r21 r22 r23 v17 h1 g0 f18 h2 g1 fn2 h3 g2 fn3 h4 g3 fn4) H := hP
          have hD : va_D A (wd_d906eaf1 h0 v0 h1 v1 t14 (-1) 3 h2 h3 h4 r0 r1 r2 r3 v3 v4 r4 r5 r6 r7 v5 r8 r9 v6 v7 r10 r11 v8 v9 r12 v10 v11 r13 v12 w13 r14 v14 v15 r15 r16 r17 r18 r19 r20 v16 r21 r22 r23 v17 h1 g0 f18 h2 g1 fn2 h3 g2 fn3 h4 g3 fn4) := hD
          refine lv_aload_n hx hb dX12_goOnAnd_27 rfl (lv_at hl 0 rfl) ?_
          have hPc := hP.sub (ws' := (wd_d906eaf1 h0 v0 h1 v1 t14 (-1) 3 h2 h3 h4 r0 r1 r2 r3 v3 v4 r4 r5 r6 r7 v5 r8 r9 v6 v7 r10 r11 v8 v9 r12 v10 v11 r13 v12 w13 r14 v14 v15 r15 r16 r17 r18 r19 r20 v16 r21 r22 r23 v17 h1 g0 f18 h2 g1 fn2 h3 g2 fn3 h4 g3 fn4)) [0, 1, 2, 3, 4] rfl
          have hDc := hD.sub (ws' := (wd_d906eaf1 h0 v0 h1 v1 t14 (-1) 3 h2 h3 h4 r0 r1 r2 r3 v3 v4 r4 r5 r6 r7 v5 r8 r9 v6 v7 r10 r11 v8 v9 r12 v10 v11 r13 v12 w13 r14 v14 v15 r15 r16 r17 r18 r19 r20 v16 r21 r22 r23 v17 h1 g0 f18 h2 g1 fn2 h3 g2 fn3 h4 g3 fn4)) [0, 1, 2, 3, 4] (by decide) rfl
          have hKc := hK.sub (tys' := [(g0, .int), (g1, .int), (g2, .int), (g3, .int)]) [0, 1, 2, 3] rfl
          have hFc := va_free (wc := (wd_d906eaf1 h0 v0 h1 v1 t14 (-1) 3 h2 h3 h4 r0 r1 r2 r3 v3 v4 r4 r5 r6 r7 v5 r8 r9 v6 v7 r10 r11 v8 v9 r12 v10 v11 r13 v12 w13 r14 v14 v15 r15 r16 r17 r18 r19 r20 v16 r21 r22 r23 v17 h1 g0 f18 h2 g1 fn2 h3 g2 fn3 h4 g3 fn4)) hD hS hA [0, 1, 2, 3, 4] rfl
          refine va_callv (va_runV (As := []) (rest := []) ⟨hx, hb, hml, hown, hts⟩ (k_X12_unit_3 l dC dI h0 h1 h2 h3 h4 v0 v1 t14 r0 r1 r2 r3 v3 v4 r4 r5 r6 r7 v5 r8 r9 v6 v7 r10 r11 v8 v9 r12 v10 v11 r13 v12 w13 r14 v14 v15 r15 r16 r17 r18 r19 r20 v16 r21 r22 r23 v17 g0 f18 g1 fn2 g2 fn3 g3 fn4 ⟨i_v1a, i_v1b⟩ ⟨by first | omega | decide, by first | omega | decide⟩ ⟨i_v3a, i_v3b⟩ ⟨i_v4a, i_v4b⟩ ⟨i_v5a, i_v5b⟩ ⟨i_v6a, i_v6b⟩ ⟨i_v7a, i_v7b⟩ ⟨i_v8a, i_v8b⟩ ⟨i_v12a, i_v12b⟩ ⟨i_v16a, i_v16b⟩ ⟨i_v17a, i_v17b⟩ ia_f18 (by constructor <;> omega) H.size) (cwV 0 hts g_X12_goOnAnd_4_1 rfl rfl rfl (by decide +kernel) ⟨Nat.le_of_ble_eq_true rfl, Nat.le_of_ble_eq_true rfl⟩) (pv_PV12 hPc hKc hDc (q0 := 0) rfl) rfl rfl hl.1 rfl (lv_room (Nat.le_of_ble_eq_true rfl)) dX12_goOnAnd_28 ⟨Nat.le_of_ble_eq_true rfl, Nat.le_of_ble_eq_true rfl⟩) hS (fun q _ h => hFc q h) hFc (fun u t H1 locs ht hvm hwra15 hB hz1 hk1 hS => ?_)
          rcases hB with hB | hB
          · skip
            obtain ⟨x16, fn17, fn18, fn19, oa_x16, ob_x16, pt0_ra15, pt1_ra15, pt2_ra15, hP1, hK1, hD1⟩ := hB
            rw [ht] at hP1
            obtain ⟨hP2, hD2⟩ := va_join (wr := []) (w1 := (wd_d906eaf1 h0 v0 h1 v1 x16 (-1) 3 h2 h3 h4 r0 r1 r2 r3 v3 v4 r4 r5 r6 r7 v5 r8 r9 v6 v7 r10 r11 v8 v9 r12 v10 v11 r13 v12 w13 r14 v14 v15 r15 r16 r17 r18 r19 r20 v16 r21 r22 r23 v17 h1 g0 f18 h2 g1 fn17 h3 g2 fn18 h4 g3 fn19)) hP hD [0, 1, 2, 3, 4] [] rfl rfl (by decide) (by decide) hk1 hFc hP1 hD1
            clear hP hD hPc hDc hKc hFc hP1 hK1 hD1 hk1 hz1
            generalize H1 = H at hP2 hS ⊢
            have hP : va_P (dC, dI) vwCl (wd_d906eaf1 h0 v0 h1 v1 x16 (-1) 3 h2 h3 h4 r0 r1 r2 r3 v3 v4 r4 r5 r6 r7 v5 r8 r9 v6 v7 r10 r11 v8 v9 r12 v10 v11 r13 v12 w13 r14 v14 v15 r15 r16 r17 r18 r19 r20 v16 r21 r22 r23 v17 h1 g0 f18 h2 g1 fn17 h3 g2 fn18 h4 g3 fn19) H := hP2
            have hD : va_D A (wd_d906eaf1 h0 v0 h1 v1 x16 (-1) 3 h2 h3 h4 r0 r1 r2 r3 v3 v4 r4 r5 r6 r7 v5 r8 r9 v6 v7 r10 r11 v8 v9 r12 v10 v11 r13 v12 w13 r14 v14 v15 r15 r16 r17 r18 r19 r20 v16 r21 r22 r23 v17 h1 g0 f18 h2 g1 fn17 h3 g2 fn18 h4 g3 fn19) := hD2
            clear hP2 hD2
            have hgR := hgR.app (k' := 1) (D := 10) pt1_ra15 (by decide) (by decide) (by decide) (by decide)
            have hgF := hgR.1
            have hxl := hgF.1
            refine lv_aload_n hx hb dX12_goOnAnd_31 rfl (lv_at hl 0 rfl) ?_
            refine lv_bipush (v := 10) hx hb dX12_goOnAnd_32 (by decide) ?_
            refine lv_iconst (v := 0) hx hb dX12_goOnAnd_34 (by decide) ?_
            have hPc := hP.sub (ws' := (wd_c62683a8 h0 v0 h1 v1 x16 (-1) 3 h2 h3 h4 r0 r1 r2 r3 v3 v4 r4 r5 r6 r7 v5 r8 r9 v6 v7 r10 r11 v8 v9 r12 v10 v11 r13 v12 w13 r14 v14 v15 r15 r16 r17 r18 r19 r20 v16 r21 r22 r23 v17 h2 g1 fn17 h3 g2 fn18 h4 g3 fn19)) [0, 2, 3, 4] rfl
            have hDc := hD.sub (ws' := (wd_c62683a8 h0 v0 h1 v1 x16 (-1) 3 h2 h3 h4 r0 r1 r2 r3 v3 v4 r4 r5 r6 r7 v5 r8 r9 v6 v7 r10 r11 v8 v9 r12 v10 v11 r13 v12 w13 r14 v14 v15 r15 r16 r17 r18 r19 r20 v16 r21 r22 r23 v17 h2 g1 fn17 h3 g2 fn18 h4 g3 fn19)) [0, 2, 3, 4] (by decide) rfl
            have hKc := hK.sub (tys' := [(g1, .int), (g2, .int), (g3, .int)]) [1, 2, 3] rfl
            have hFc := va_free (wc := (wd_c62683a8 h0 v0 h1 v1 x16 (-1) 3 h2 h3 h4 r0 r1 r2 r3 v3 v4 r4 r5 r6 r7 v5 r8 r9 v6 v7 r10 r11 v8 v9 r12 v10 v11 r13 v12 w13 r14 v14 v15 r15 r16 r17 r18 r19 r20 v16 r21 r22 r23 v17 h2 g1 fn17 h3 g2 fn18 h4 g3 fn19)) hD hS hA [0, 2, 3, 4] rfl
            refine va_callv (va_runV (As := [.int 10, .int 0]) (rest := []) ⟨hx, hb, hml, hown, hts⟩ (k_X12_put l dC dI h0 h2 h3 h4 v0 h1 v1 x16 ((-1)) 3 r0 r1 r2 r3 v3 v4 r4 r5 r6 r7 v5 r8 r9 v6 v7 r10 r11 v8 v9 r12 v10 v11 r13 v12 w13 r14 v14 v15 r15 r16 r17 r18 r19 r20 v16 r21 r22 r23 v17 g1 fn17 g2 fn18 g3 fn19 10 0 ⟨i_v1a, i_v1b⟩ ⟨i_v3a, i_v3b⟩ ⟨i_v4a, i_v4b⟩ ⟨i_v5a, i_v5b⟩ ⟨i_v6a, i_v6b⟩ ⟨i_v7a, i_v7b⟩ ⟨i_v8a, i_v8b⟩ ⟨i_v12a, i_v12b⟩ ⟨i_v16a, i_v16b⟩ ⟨i_v17a, i_v17b⟩ (by constructor <;> omega) H.size) (cwV 2 hts g_X12_goOnAnd_4_2 rfl rfl rfl (by decide +kernel) ⟨Nat.le_of_ble_eq_true rfl, Nat.le_of_ble_eq_true rfl⟩) (pv_PV12 hPc hKc hDc (q0 := 0) rfl) rfl rfl hl.1 rfl (lv_room (Nat.le_of_ble_eq_true rfl)) dX12_goOnAnd_35 ⟨Nat.le_of_ble_eq_true rfl, Nat.le_of_ble_eq_true rfl⟩) hS (fun q _ h => hFc q h) hFc (fun u t H1 locs ht hvm hwra20 hB hz1 hk1 hS => ?_)
            have hkra20_0 : (((-1) : Int32)).toInt = -1 := by decide
            have hkra20_1 : ((0 : Int32)).toInt = 0 := by decide
            have hkra20_2 : ((3 : Int32)).toInt = 3 := by decide
            have hkra20_3 : ((10 : Int32)).toInt = 10 := by decide
            obtain ⟨fn21, fn22, fn23, pt0_ra20, hP1, hK1, hD1⟩ := hB
            rw [ht] at hP1
            obtain ⟨hP2, hD2⟩ := va_join (wr := (wd_d0032b31 h1 g0 f18)) (w1 := (wd_c62683a8 h0 v0 h1 v1 x16 (-1) 3 h2 h3 h4 r0 r1 r2 r3 v3 v4 r4 r5 r6 r7 v5 r8 r9 v6 v7 r10 r11 v8 v9 r12 v10 v11 r13 v12 w13 r14 v14 v15 r15 r16 r17 r18 r19 r20 v16 r21 r22 r23 v17 h2 g1 fn21 h3 g2 fn22 h4 g3 fn23)) hP hD [0, 2, 3, 4] [1] rfl rfl (by decide) (by decide) hk1 hFc hP1 hD1
            clear hP hD hPc hDc hKc hFc hP1 hK1 hD1 hk1 hz1
            generalize H1 = H at hP2 hS ⊢
            have hP := hP2.sub (ws' := (wd_d906eaf1 h0 v0 h1 v1 x16 (-1) 3 h2 h3 h4 r0 r1 r2 r3 v3 v4 r4 r5 r6 r7 v5 r8 r9 v6 v7 r10 r11 v8 v9 r12 v10 v11 r13 v12 w13 r14 v14 v15 r15 r16 r17 r18 r19 r20 v16 r21 r22 r23 v17 h1 g0 f18 h2 g1 fn21 h3 g2 fn22 h4 g3 fn23)) [1, 0, 2, 3, 4] rfl
            have hD := hD2.sub (ws' := (wd_d906eaf1 h0 v0 h1 v1 x16 (-1) 3 h2 h3 h4 r0 r1 r2 r3 v3 v4 r4 r5 r6 r7 v5 r8 r9 v6 v7 r10 r11 v8 v9 r12 v10 v11 r13 v12 w13 r14 v14 v15 r15 r16 r17 r18 r19 r20 v16 r21 r22 r23 v17 h1 g0 f18 h2 g1 fn21 h3 g2 fn22 h4 g3 fn23)) [1, 0, 2, 3, 4] (by decide) rfl
            clear hP2 hD2
            have hgR := hgR.bin (k' := 0) (D := 10) pt0_ra20 (by decide) (by decide) (by decide) (by decide) (by decide)
            have hgF := hgR.1
            have hxl := hgF.1
            have hxs := pt0_ra20.step
            refine lv_goto (tgt := 0) hx hb dX12_goOnAnd_38 (by decide) ?_
            exact ih_hL9 x16 fn21 fn22 fn23 H locs ls oa_x16 ob_x16 (by constructor <;> omega) (by exact hgR.mono (by decide)) (by first | assumption | (apply pg_row.ent <;> first | assumption | omega) | (apply pg_L.next <;> first | assumption | omega) | (apply pg_L.step <;> first | assumption | omega | (apply pg_tru.no <;> assumption) | (apply pg_tru.ok <;> assumption)) | exact pg_L.of (by omega) rfl) (by first | omega | (simp only [Int.toNat] at *; omega)) hP hD hS (lv_sub hl [0] rfl)
          · skip
            obtain ⟨x24, x25, x26, fn27, fn28, fn29, oa_x24, ob_x24, oa_x25, ob_x25, pt0_ra15, pt1_ra15, pt2_ra15, hP1, hK1, hD1⟩ := hB
            rw [ht] at hP1
            obtain ⟨hP2, hD2⟩ := va_join (wr := []) (w1 := (wd_d906eaf1 h0 v0 h1 v1 x24 x25 x26 h2 h3 h4 r0 r1 r2 r3 v3 v4 r4 r5 r6 r7 v5 r8 r9 v6 v7 r10 r11 v8 v9 r12 v10 v11 r13 v12 w13 r14 v14 v15 r15 r16 r17 r18 r19 r20 v16 r21 r22 r23 v17 h1 g0 f18 h2 g1 fn27 h3 g2 fn28 h4 g3 fn29)) hP hD [0, 1, 2, 3, 4] [] rfl rfl (by decide) (by decide) hk1 hFc hP1 hD1
            clear hP hD hPc hDc hKc hFc hP1 hK1 hD1 hk1 hz1
            generalize H1 = H at hP2 hS ⊢
            have hP : va_P (dC, dI) vwCl (wd_d906eaf1 h0 v0 h1 v1 x24 x25 x26 h2 h3 h4 r0 r1 r2 r3 v3 v4 r4 r5 r6 r7 v5 r8 r9 v6 v7 r10 r11 v8 v9 r12 v10 v11 r13 v12 w13 r14 v14 v15 r15 r16 r17 r18 r19 r20 v16 r21 r22 r23 v17 h1 g0 f18 h2 g1 fn27 h3 g2 fn28 h4 g3 fn29) H := hP2
            have hD : va_D A (wd_d906eaf1 h0 v0 h1 v1 x24 x25 x26 h2 h3 h4 r0 r1 r2 r3 v3 v4 r4 r5 r6 r7 v5 r8 r9 v6 v7 r10 r11 v8 v9 r12 v10 v11 r13 v12 w13 r14 v14 v15 r15 r16 r17 r18 r19 r20 v16 r21 r22 r23 v17 h1 g0 f18 h2 g1 fn27 h3 g2 fn28 h4 g3 fn29) := hD2
            clear hP2 hD2
            have hgF := hgF.app pt1_ra15
            have hxl := hgF.1
            refine lv_aload_n hx hb dX12_goOnAnd_31 rfl (lv_at hl 0 rfl) ?_
            refine lv_bipush (v := 10) hx hb dX12_goOnAnd_32 (by decide) ?_
            refine lv_iconst (v := 0) hx hb dX12_goOnAnd_34 (by decide) ?_
            have hPc := hP.sub (ws' := (wd_c62683a8 h0 v0 h1 v1 x24 x25 x26 h2 h3 h4 r0 r1 r2 r3 v3 v4 r4 r5 r6 r7 v5 r8 r9 v6 v7 r10 r11 v8 v9 r12 v10 v11 r13 v12 w13 r14 v14 v15 r15 r16 r17 r18 r19 r20 v16 r21 r22 r23 v17 h2 g1 fn27 h3 g2 fn28 h4 g3 fn29)) [0, 2, 3, 4] rfl
            have hDc := hD.sub (ws' := (wd_c62683a8 h0 v0 h1 v1 x24 x25 x26 h2 h3 h4 r0 r1 r2 r3 v3 v4 r4 r5 r6 r7 v5 r8 r9 v6 v7 r10 r11 v8 v9 r12 v10 v11 r13 v12 w13 r14 v14 v15 r15 r16 r17 r18 r19 r20 v16 r21 r22 r23 v17 h2 g1 fn27 h3 g2 fn28 h4 g3 fn29)) [0, 2, 3, 4] (by decide) rfl
            have hKc := hK.sub (tys' := [(g1, .int), (g2, .int), (g3, .int)]) [1, 2, 3] rfl
            have hFc := va_free (wc := (wd_c62683a8 h0 v0 h1 v1 x24 x25 x26 h2 h3 h4 r0 r1 r2 r3 v3 v4 r4 r5 r6 r7 v5 r8 r9 v6 v7 r10 r11 v8 v9 r12 v10 v11 r13 v12 w13 r14 v14 v15 r15 r16 r17 r18 r19 r20 v16 r21 r22 r23 v17 h2 g1 fn27 h3 g2 fn28 h4 g3 fn29)) hD hS hA [0, 2, 3, 4] rfl
            refine va_callv (va_runV (As := [.int 10, .int 0]) (rest := []) ⟨hx, hb, hml, hown, hts⟩ (k_X12_put l dC dI h0 h2 h3 h4 v0 h1 v1 x24 x25 x26 r0 r1 r2 r3 v3 v4 r4 r5 r6 r7 v5 r8 r9 v6 v7 r10 r11 v8 v9 r12 v10 v11 r13 v12 w13 r14 v14 v15 r15 r16 r17 r18 r19 r20 v16 r21 r22 r23 v17 g1 fn27 g2 fn28 g3 fn29 10 0 ⟨i_v1a, i_v1b⟩ ⟨i_v3a, i_v3b⟩ ⟨i_v4a, i_v4b⟩ ⟨i_v5a, i_v5b⟩ ⟨i_v6a, i_v6b⟩ ⟨i_v7a, i_v7b⟩ ⟨i_v8a, i_v8b⟩ ⟨i_v12a, i_v12b⟩ ⟨i_v16a, i_v16b⟩ ⟨i_v17a, i_v17b⟩ (by constructor <;> omega) H.size) (cwV 2 hts g_X12_goOnAnd_4_2 rfl rfl rfl (by decide +kernel) ⟨Nat.le_of_ble_eq_true rfl, Nat.le_of_ble_eq_true rfl⟩) (pv_PV12 hPc hKc hDc (q0 := 0) rfl) rfl rfl hl.1 rfl (lv_room (Nat.le_of_ble_eq_true rfl)) dX12_goOnAnd_35 ⟨Nat.le_of_ble_eq_true rfl, Nat.le_of_ble_eq_true rfl⟩) hS (fun q _ h => hFc q h) hFc (fun u t H1 locs ht hvm hwra30 hB hz1 hk1 hS => ?_)
            have hkra30_0 : ((0 : Int32)).toInt = 0 := by decide
            have hkra30_1 : ((10 : Int32)).toInt = 10 := by decide
            obtain ⟨fn31, fn32, fn33, pt0_ra30, hP1, hK1, hD1⟩ := hB
            rw [ht] at hP1
            obtain ⟨hP2, hD2⟩ := va_join (wr := (wd_d0032b31 h1 g0 f18)) (w1 := (wd_c62683a8 h0 v0 h1 v1 x24 x25 x26 h2 h3 h4 r0 r1 r2 r3 v3 v4 r4 r5 r6 r7 v5 r8 r9 v6 v7 r10 r11 v8 v9 r12 v10 v11 r13 v12 w13 r14 v14 v15 r15 r16 r17 r18 r19 r20 v16 r21 r22 r23 v17 h2 g1 fn31 h3 g2 fn32 h4 g3 fn33)) hP hD [0, 2, 3, 4] [1] rfl rfl (by decide) (by decide) hk1 hFc hP1 hD1
            clear hP hD hPc hDc hKc hFc hP1 hK1 hD1 hk1 hz1
            generalize H1 = H at hP2 hS ⊢
            have hP := hP2.sub (ws' := (wd_d906eaf1 h0 v0 h1 v1 x24 x25 x26 h2 h3 h4 r0 r1 r2 r3 v3 v4 r4 r5 r6 r7 v5 r8 r9 v6 v7 r10 r11 v8 v9 r12 v10 v11 r13 v12 w13 r14 v14 v15 r15 r16 r17 r18 r19 r20 v16 r21 r22 r23 v17 h1 g0 f18 h2 g1 fn31 h3 g2 fn32 h4 g3 fn33)) [1, 0, 2, 3, 4] rfl
            have hD := hD2.sub (ws' := (wd_d906eaf1 h0 v0 h1 v1 x24 x25 x26 h2 h3 h4 r0 r1 r2 r3 v3 v4 r4 r5 r6 r7 v5 r8 r9 v6 v7 r10 r11 v8 v9 r12 v10 v11 r13 v12 w13 r14 v14 v15 r15 r16 r17 r18 r19 r20 v16 r21 r22 r23 v17 h1 g0 f18 h2 g1 fn31 h3 g2 fn32 h4 g3 fn33)) [1, 0, 2, 3, 4] (by decide) rfl
            clear hP2 hD2
            have hgF := hgF.put pt0_ra30
            have hxl := hgF.1
            have hxs := pt0_ra30.step
            refine lv_goto (tgt := 0) hx hb dX12_goOnAnd_38 (by decide) ?_
            refine lv_aload_n hx hb dX12_goOnAnd_0 rfl (lv_at hl 0 rfl) ?_
            refine va_get (D := (dC, dI)) (ci := 12) (v := .int x25) (C := RX12) (T := TX12) (N := 48) hx hb hts (fun _ h => List.mem_cons_of_mem _ (List.mem_append_right _ h)) hown hK hP 0 rfl rfl 4 (by decide) (hts (.fieldLink RX12 119 "LeftArgumentsModel" "wrong" "I") (List.mem_cons_of_mem _ (List.mem_append_left _ (List.mem_of_getElem? (i := 0) rfl)))) (fun _ h9 => h9) rfl dX12_goOnAnd_1 ?_
            refine lv_iconst (v := (-1)) hx hb dX12_goOnAnd_4 (by decide) ?_
            refine lv_icmp_ne (tgt := 41) hx hb dX12_goOnAnd_5 (by decide) (fun _ => ?_) (fun c34 => by exfalso; have fc34 : x25.toInt = (-1) := congrArg Int32.toInt c34; omega)
            subst hQ
            have hP9 := hP.sub (ws' := (wd_d906eaf1 h0 v0 h1 v1 x24 x25 x26 h2 h3 h4 r0 r1 r2 r3 v3 v4 r4 r5 r6 r7 v5 r8 r9 v6 v7 r10 r11 v8 v9 r12 v10 v11 r13 v12 w13 r14 v14 v15 r15 r16 r17 r18 r19 r20 v16 r21 r22 r23 v17 h1 g0 f18 h2 g1 fn31 h3 g2 fn32 h4 g3 fn33)) [0, 1, 2, 3, 4] rfl
            have hD9 := hD.sub (ws' := (wd_d906eaf1 h0 v0 h1 v1 x24 x25 x26 h2 h3 h4 r0 r1 r2 r3 v3 v4 r4 r5 r6 r7 v5 r8 r9 v6 v7 r10 r11 v8 v9 r12 v10 v11 r13 v12 w13 r14 v14 v15 r15 r16 r17 r18 r19 r20 v16 r21 r22 r23 v17 h1 g0 f18 h2 g1 fn31 h3 g2 fn32 h4 g3 fn33)) [0, 1, 2, 3, 4] (by decide) rfl
            have hK9 := hK.sub (tys' := []) [] rfl
            exact W.vret hx hb hr (fun t ht hW => ⟨⟨(), rfl, trivial, Or.inr (⟨x24, x25, x26, fn31, fn32, fn33, oa_x24, ob_x24, oa_x25, ob_x25, by constructor <;> omega, by exact hgF, by first | assumption | (apply pg_lp.no <;> first | assumption | omega | (apply pg_tru.no <;> assumption) | (apply pg_tru.ok <;> assumption)) | (apply pg_L.no <;> first | assumption | omega | (apply pg_tru.no <;> assumption) | (apply pg_tru.ok <;> assumption)), by rw [ht]; exact hP9, va_K.moved hW.alike hK9, hD9⟩)⟩, hS.F ht⟩) hS.2.2 dX12_goOnAnd_41
  exact hL9 _ v2 f19 f20 f21 H locs ls i_v2a i_v2b (by constructor <;> omega) (by exact hgR.mono (by decide)) (by first | assumption | (apply pg_row.ent <;> first | assumption | omega) | (apply pg_L.next <;> first | assumption | omega) | (apply pg_L.step <;> first | assumption | omega | (apply pg_tru.no <;> assumption) | (apply pg_tru.ok <;> assumption)) | exact pg_L.of (by omega) rfl) (Nat.lt_succ_self _) hP hD hS (lv_sub hl [0] rfl)
def q_X12_goOnOr_4 : List Cond := .code yX12_goOnOr cX12_goOnOr 1 none :: (([.fieldLink RX12 119 "LeftArgumentsModel" "wrong" "I", .code yX12_look cX12_look 1 (some .int), .code yX12_here cX12_here 1 (some .int), .fieldLink RX12 112 "LeftArgumentsModel" "at" "I", .fieldLink RX12 109 "LeftArgumentsModel" "size" "I", .fieldLink RX12 9 "LeftArgumentsModel" "tape" "[I", .initialized RX12, .instanceMethod yX12_here, .selects RX12 yX12_here yX12_here, .methodLink RX12 115 yX12_here, .instanceMethod yX12_look, .selects RX12 yX12_look yX12_look, .methodLink RX12 131 yX12_look, .code yX12_unit cX12_unit 2 none, .code yX12_sum cX12_sum 2 none, .code yX12_term cX12_term 2 none, .code yX12_atom cX12_atom 2 none, .code yX12_isDigit cX12_isDigit 1 (some .boolean), .static yX12_isDigit, .methodLink RX12 134 yX12_isDigit, .code yX12_letterOf cX12_letterOf 1 (some .int), .static yX12_letterOf, .methodLink RX12 145 yX12_letterOf, .code yX12_bad cX12_bad 1 none, .instanceMethod yX12_bad, .selects RX12 yX12_bad yX12_bad, .methodLink RX12 128 yX12_bad, .code yX12_opens cX12_opens 1 none, .fieldLink RX12 125 "LeftArgumentsModel" "deep" "I", .instanceMethod yX12_opens, .selects RX12 yX12_opens yX12_opens, .methodLink RX12 149 yX12_opens, .code yX12_put cX12_put 3 none, .fieldLink RX12 13 "LeftArgumentsModel" "code" "[I", .fieldLink RX12 122 "LeftArgumentsModel" "text" "I", .fieldLink RX12 19 "LeftArgumentsModel" "codes" "[I", .fieldLink RX12 16 "LeftArgumentsModel" "value" "[I", .instanceMethod yX12_put, .selects RX12 yX12_put yX12_put, .methodLink RX12 141 yX12_put, .code yX12_plainNumber cX12_plainNumber 3 (some .int), .instanceMethod yX12_plainNumber, .selects RX12 yX12_plainNumber yX12_plainNumber, .methodLink RX12 138 yX12_plainNumber, .instanceMethod yX12_atom, .selects RX12 yX12_atom yX12_atom, .methodLink RX12 159 yX12_atom, .instanceMethod yX12_term, .selects RX12 yX12_term yX12_term, .methodLink RX12 162 yX12_term, .instanceMethod yX12_sum, .selects RX12 yX12_sum yX12_sum, .methodLink RX12 152 yX12_sum, .code yX12_closes cX12_closes 2 none, .instanceMethod yX12_closes, .selects RX12 yX12_closes yX12_closes, .methodLink RX12 155 yX12_closes, .code yX12_compare cX12_compare 2 none, .code yX12_isSign cX12_isSign 1 (some .boolean), .static yX12_isSign, .methodLink RX12 165 yX12_isSign, .instanceMethod yX12_compare, .selects RX12 yX12_compare yX12_compare, .methodLink RX12 174 yX12_compare, .code yX12_condition cX12_condition 1 none, .instanceMethod yX12_unit, .selects RX12 yX12_unit yX12_unit, .methodLink RX12 168 yX12_unit, .code yX12_goOnAnd cX12_goOnAnd 1 none, .instanceMethod yX12_goOnAnd, .selects RX12 yX12_goOnAnd yX12_goOnAnd, .methodLink RX12 177 yX12_goOnAnd, .code yX12_goOnOr cX12_goOnOr 1 none, .instanceMethod yX12_goOnOr, .selects RX12 yX12_goOnOr yX12_goOnOr, .methodLink RX12 180 yX12_goOnOr, .instanceMethod yX12_condition, .selects RX12 yX12_condition yX12_condition, .methodLink RX12 171 yX12_condition] : List Cond) ++ wsX120)
set_option maxRecDepth 20000 in
theorem g_X12_goOnOr_4_0 : GoodIn q_X12_goOnOr_4 (wsV RX12 131 RX12 yX12_look q_X12_look) := goodIn_app (goodIn_r _ [13, 11, 12, 7] rfl (by decide +kernel)) (goodIn_ca (goodIn_r (.code yX12_look cX12_look 1 (some .int) :: [.code yX12_here cX12_here 1 (some .int), .fieldLink RX12 112 "LeftArgumentsModel" "at" "I", .fieldLink RX12 109 "LeftArgumentsModel" "size" "I", .fieldLink RX12 9 "LeftArgumentsModel" "tape" "[I", .initialized RX12, .instanceMethod yX12_here, .selects RX12 yX12_here yX12_here, .methodLink RX12 115 yX12_here]) [2, 3, 4, 5, 6, 7, 8, 9, 10] rfl (by decide +kernel)) (goodIn_sub (fun _ h => List.mem_cons_of_mem _ (List.mem_append_right _ h)) gwX12))
set_option maxRecDepth 20000 in
theorem g_X12_goOnOr_4_1 : GoodIn q_X12_goOnOr_4 (wsV RX12 168 RX12 yX12_unit q_X12_unit_3) := goodIn_app (goodIn_r _ [68, 66, 67, 7] rfl (by decide +kernel)) (goodIn_ca (goodIn_r (.code yX12_unit cX12_unit 2 none :: [.code yX12_look cX12_look 1 (some .int), .code yX12_here cX12_here 1 (some .int), .fieldLink RX12 112 "LeftArgumentsModel" "at" "I", .fieldLink RX12 109 "LeftArgumentsModel" "size" "I", .fieldLink RX12 9 "LeftArgumentsModel" "tape" "[I", .initialized RX12, .instanceMethod yX12_here, .selects RX12 yX12_here yX12_here, .methodLink RX12 115 yX12_here, .instanceMethod yX12_look, .selects RX12 yX12_look yX12_look, .methodLink RX12 131 yX12_look, .code yX12_sum cX12_sum 2 none, .code yX12_term cX12_term 2 none, .code yX12_atom cX12_atom 2 none, .code yX12_isDigit cX12_isDigit 1 (some .boolean), .static yX12_isDigit, .methodLink RX12 134 yX12_isDigit, .code yX12_letterOf cX12_letterOf 1 (some .int), .static yX12_letterOf, .methodLink RX12 145 yX12_letterOf, .code yX12_bad cX12_bad 1 none, .fieldLink RX12 119 "LeftArgumentsModel" "wrong" "I", .instanceMethod yX12_bad, .selects RX12 yX12_bad yX12_bad, .methodLink RX12 128 yX12_bad, .code yX12_opens cX12_opens 1 none, .fieldLink RX12 125 "LeftArgumentsModel" "deep" "I", .instanceMethod yX12_opens, .selects RX12 yX12_opens yX12_opens, .methodLink RX12 149 yX12_opens, .code yX12_put cX12_put 3 none, .fieldLink RX12 13 "LeftArgumentsModel" "code" "[I", .fieldLink RX12 122 "LeftArgumentsModel" "text" "I", .fieldLink RX12 19 "LeftArgumentsModel" "codes" "[I", .fieldLink RX12 16 "LeftArgumentsModel" "value" "[I", .instanceMethod yX12_put, .selects RX12 yX12_put yX12_put, .methodLink RX12 141 yX12_put, .code yX12_plainNumber cX12_plainNumber 3 (some .int), .instanceMethod yX12_plainNumber, .selects RX12 yX12_plainNumber yX12_plainNumber, .methodLink RX12 138 yX12_plainNumber, .instanceMethod yX12_atom, .selects RX12 yX12_atom yX12_atom, .methodLink RX12 159 yX12_atom, .instanceMethod yX12_term, .selects RX12 yX12_term yX12_term, .methodLink RX12 162 yX12_term, .instanceMethod yX12_sum, .selects RX12 yX12_sum yX12_sum, .methodLink RX12 152 yX12_sum, .code yX12_closes cX12_closes 2 none, .instanceMethod yX12_closes, .selects RX12 yX12_closes yX12_closes, .methodLink RX12 155 yX12_closes, .code yX12_compare cX12_compare 2 none, .code yX12_isSign cX12_isSign 1 (some .boolean), .static yX12_isSign, .methodLink RX12 165 yX12_isSign, .instanceMethod yX12_compare, .selects RX12 yX12_compare yX12_compare, .methodLink RX12 174 yX12_compare, .code yX12_condition cX12_condition 1 none, .code yX12_unit cX12_unit 2 none, .instanceMethod yX12_unit, .selects RX12 yX12_unit yX12_unit, .methodLink RX12 168 yX12_unit, .code yX12_goOnAnd cX12_goOnAnd 1 none, .instanceMethod yX12_goOnAnd, .selects RX12 yX12_goOnAnd yX12_goOnAnd, .methodLink RX12 177 yX12_goOnAnd, .code yX12_goOnOr cX12_goOnOr 1 none, .instanceMethod yX12_goOnOr, .selects RX12 yX12_goOnOr yX12_goOnOr, .methodLink RX12 180 yX12_goOnOr, .instanceMethod yX12_condition, .selects RX12 yX12_condition yX12_condition, .methodLink RX12 171 yX12_condition]) [14, 2, 3, 4, 5, 6, 7, 8, 9, 10, 11, 12, 13, 15, 16, 17, 18, 19, 20, 21, 22, 23, 24, 1, 25, 26, 27, 28, 29, 30, 31, 32, 33, 34, 35, 36, 37, 38, 39, 40, 41, 42, 43, 44, 45, 46, 47, 48, 49, 50, 51, 52, 53, 54, 55, 56, 57, 58, 59, 60, 61, 62, 63, 64, 65, 14, 66, 67, 68, 69, 70, 71, 72, 73, 74, 75, 76, 77, 78, 79] rfl (by decide +kernel)) (goodIn_sub (fun _ h => List.mem_cons_of_mem _ (List.mem_append_right _ h)) gwX12))
set_option maxRecDepth 20000 in
theorem g_X12_goOnOr_4_2 : GoodIn q_X12_goOnOr_4 (wsV RX12 177 RX12 yX12_goOnAnd q_X12_goOnAnd_4) := goodIn_app (goodIn_r _ [72, 70, 71, 7] rfl (by decide +kernel)) (goodIn_ca (goodIn_r (.code yX12_goOnAnd cX12_goOnAnd 1 none :: [.fieldLink RX12 119 "LeftArgumentsModel" "wrong" "I", .code yX12_look cX12_look 1 (some .int), .code yX12_here cX12_here 1 (some .int), .fieldLink RX12 112 "LeftArgumentsModel" "at" "I", .fieldLink RX12 109 "LeftArgumentsModel" "size" "I", .fieldLink RX12 9 "LeftArgumentsModel" "tape" "[I", .initialized RX12, .instanceMethod yX12_here, .selects RX12 yX12_here yX12_here, .methodLink RX12 115 yX12_here, .instanceMethod yX12_look, .selects RX12 yX12_look yX12_look, .methodLink RX12 131 yX12_look, .code yX12_unit cX12_unit 2 none, .code yX12_sum cX12_sum 2 none, .code yX12_term cX12_term 2 none, .code yX12_atom cX12_atom 2 none, .code yX12_isDigit cX12_isDigit 1 (some .boolean), .static yX12_isDigit, .methodLink RX12 134 yX12_isDigit, .code yX12_letterOf cX12_letterOf 1 (some .int), .static yX12_letterOf, .methodLink RX12 145 yX12_letterOf, .code yX12_bad cX12_bad 1 none, .instanceMethod yX12_bad, .selects RX12 yX12_bad yX12_bad, .methodLink RX12 128 yX12_bad, .code yX12_opens cX12_opens 1 none, .fieldLink RX12 125 "LeftArgumentsModel" "deep" "I", .instanceMethod yX12_opens, .selects RX12 yX12_opens yX12_opens, .methodLink RX12 149 yX12_opens, .code yX12_put cX12_put 3 none, .fieldLink RX12 13 "LeftArgumentsModel" "code" "[I", .fieldLink RX12 122 "LeftArgumentsModel" "text" "I", .fieldLink RX12 19 "LeftArgumentsModel" "codes" "[I", .fieldLink RX12 16 "LeftArgumentsModel" "value" "[I", .instanceMethod yX12_put, .selects RX12 yX12_put yX12_put, .methodLink RX12 141 yX12_put, .code yX12_plainNumber cX12_plainNumber 3 (some .int), .instanceMethod yX12_plainNumber, .selects RX12 yX12_plainNumber yX12_plainNumber, .methodLink RX12 138 yX12_plainNumber, .instanceMethod yX12_atom, .selects RX12 yX12_atom yX12_atom, .methodLink RX12 159 yX12_atom, .instanceMethod yX12_term, .selects RX12 yX12_term yX12_term, .methodLink RX12 162 yX12_term, .instanceMethod yX12_sum, .selects RX12 yX12_sum yX12_sum, .methodLink RX12 152 yX12_sum, .code yX12_closes cX12_closes 2 none, .instanceMethod yX12_closes, .selects RX12 yX12_closes yX12_closes, .methodLink RX12 155 yX12_closes, .code yX12_compare cX12_compare 2 none, .code yX12_isSign cX12_isSign 1 (some .boolean), .static yX12_isSign, .methodLink RX12 165 yX12_isSign, .instanceMethod yX12_compare, .selects RX12 yX12_compare yX12_compare, .methodLink RX12 174 yX12_compare, .code yX12_condition cX12_condition 1 none, .instanceMethod yX12_unit, .selects RX12 yX12_unit yX12_unit, .methodLink RX12 168 yX12_unit, .code yX12_goOnAnd cX12_goOnAnd 1 none, .instanceMethod yX12_goOnAnd, .selects RX12 yX12_goOnAnd yX12_goOnAnd, .methodLink RX12 177 yX12_goOnAnd, .code yX12_goOnOr cX12_goOnOr 1 none, .instanceMethod yX12_goOnOr, .selects RX12 yX12_goOnOr yX12_goOnOr, .methodLink RX12 180 yX12_goOnOr, .instanceMethod yX12_condition, .selects RX12 yX12_condition yX12_condition, .methodLink RX12 171 yX12_condition]) [69, 1, 2, 3, 4, 5, 6, 7, 8, 9, 10, 11, 12, 13, 14, 15, 16, 17, 18, 19, 20, 21, 22, 23, 24, 25, 26, 27, 28, 29, 30, 31, 32, 33, 34, 35, 36, 37, 38, 39, 40, 41, 42, 43, 44, 45, 46, 47, 48, 49, 50, 51, 52, 53, 54, 55, 56, 57, 58, 59, 60, 61, 62, 63, 64, 65, 66, 67, 68, 69, 70, 71, 72, 73, 74, 75, 76, 77, 78, 79] rfl (by decide +kernel)) (goodIn_sub (fun _ h => List.mem_cons_of_mem _ (List.mem_append_right _ h)) gwX12))
set_option maxRecDepth 20000 in
theorem g_X12_goOnOr_4_3 : GoodIn q_X12_goOnOr_4 (wsV RX12 141 RX12 yX12_put q_X12_put) := goodIn_app (goodIn_r _ [40, 38, 39, 7] rfl (by decide +kernel)) (goodIn_ca (goodIn_r (.code yX12_put cX12_put 3 none :: [.fieldLink RX12 13 "LeftArgumentsModel" "code" "[I", .fieldLink RX12 122 "LeftArgumentsModel" "text" "I", .fieldLink RX12 19 "LeftArgumentsModel" "codes" "[I", .fieldLink RX12 16 "LeftArgumentsModel" "value" "[I"]) [33, 34, 35, 36, 37] rfl (by decide +kernel)) (goodIn_sub (fun _ h => List.mem_cons_of_mem _ (List.mem_append_right _ h)) gwX12))
set_option maxRecDepth 20000 in
theorem g_X12_goOnOr_4_5 : GoodIn q_X12_goOnOr_4 (wsV RX12 177 RX12 yX12_goOnAnd q_X12_goOnAnd_1) := goodIn_app (goodIn_r _ [72, 70, 71, 7] rfl (by decide +kernel)) (goodIn_ca (goodIn_r (.code yX12_goOnAnd cX12_goOnAnd 1 none :: [.fieldLink RX12 119 "LeftArgumentsModel" "wrong" "I"]) [69, 1] rfl (by decide +kernel)) (goodIn_sub (fun _ h => List.mem_cons_of_mem _ (List.mem_append_right _ h)) gwX12))
set_option maxHeartbeats 4000000 in
set_option maxRecDepth 100000 in
theorem k_X12_goOnOr_4 (l : Launch) (dC : Nat → ClassId) (dI : Nat → Nat → Nat) (h0 : Nat) (h1 : Nat) (h2 : Nat) (h3 : Nat) (h4 : Nat) (v0 : Int32) (v1 : Int32) (v2 : Int32) (r0 : Nat) (r1 : Nat) (r2 : Nat) (r3 : Nat) (v3 : Int32) (v4 : Int32) (r4 : Nat) (r5 : Nat) (r6 : Nat) (r7 : Nat) (v5 : Int32) (r8 : Nat) (r9 : Nat) (v6 : Int32) (v7 : Int32) (r10 : Nat) (r11 : Nat) (v8 : Int32) (v9 : Int32) (r12 : Nat) (v10 : Int32) (v11 : Int32) (r13 : Nat) (v12 : Int32) (w13 : Int64) (r14 : Nat) (v14 : Int32) (v15 : Int32) (r15 : Nat) (r16 : Nat) (r17 : Nat) (r18 : Nat) (r19 : Nat) (r20 : Nat) (v16 : Int32) (r21 : Nat) (r22 : Nat) (r23 : Nat) (v17 : Int32) (g0 : ClassId) (f18 : Nat → Int32) (g1 : ClassId) (f19 : Nat → Int32) (g2 : ClassId) (f20 : Nat → Int32) (g3 : ClassId) (f21 : Nat → Int32) (i_v1 : 0 ≤ v1.toInt ∧ v1.toInt ≤ 240) (i_v2 : 0 ≤ v2.toInt ∧ v2.toInt ≤ 240) (i_v3 : 0 ≤ v3.toInt ∧ v3.toInt ≤ 4) (i_v4 : 0 ≤ v4.toInt ∧ v4.toInt ≤ 4) (i_v5 : 0 ≤ v5.toInt ∧ v5.toInt ≤ 8) (i_v6 : 0 ≤ v6.toInt ∧ v6.toInt ≤ 8) (i_v7 : 0 ≤ v7.toInt ∧ v7.toInt ≤ 1) (i_v8 : -1 ≤ v8.toInt ∧ v8.toInt ≤ 3) (i_v12 : 0 ≤ v12.toInt ∧ v12.toInt ≤ 40) (i_v16 : 0 ≤ v16.toInt ∧ v16.toInt ≤ 10) (i_v17 : 0 ≤ v17.toInt ∧ v17.toInt ≤ 1) (ia_f18 : (∀ j, 0 ≤ (f18 j).toInt ∧ (f18 j).toInt ≤ 255)) (pp0 : 0 ≤ pm_x f21 v4 ∧ pm_x f21 v4 ≤ v2.toInt) (sz : Nat) : Met l yX12_goOnOr q_X12_goOnOr_4 ({ frames := 20, cells := 0, slots := 0, locals := 410 }) (va_Pc [.ref h0] (fun U => U.heap.size = sz ∧ va_P (dC, dI) vwCl (wd_d906eaf1 h0 v0 h1 v1 v2 (-1) 3 h2 h3 h4 r0 r1 r2 r3 v3 v4 r4 r5 r6 r7 v5 r8 r9 v6 v7 r10 r11 v8 v9 r12 v10 v11 r13 v12 w13 r14 v14 v15 r15 r16 r17 r18 r19 r20 v16 r21 r22 r23 v17 h1 g0 f18 h2 g1 f19 h3 g2 f20 h4 g3 f21) U.heap ∧ va_K (dC, dI) vwCl [(g0, .int), (g1, .int), (g2, .int), (g3, .int)] U ∧ va_D (fun _ => True) (wd_d906eaf1 h0 v0 h1 v1 v2 (-1) 3 h2 h3 h4 r0 r1 r2 r3 v3 v4 r4 r5 r6 r7 v5 r8 r9 v6 v7 r10 r11 v8 v9 r12 v10 v11 r13 v12 w13 r14 v14 v15 r15 r16 r17 r18 r19 r20 v16 r21 r22 r23 v17 h1 g0 f18 h2 g1 f19 h3 g2 f20 h4 g3 f21))) (va_Qv (fun (_ : Unit) => True) (fun (_ : Unit) (t : State) => (∃ (o_h0_3 : Int32) (o_h2 : Nat → Int32) (o_h3 : Nat → Int32) (o_h4 : Nat → Int32), 0 ≤ o_h0_3.toInt ∧ o_h0_3.toInt ≤ 240 ∧ (pm_x o_h4 v4 - pm_x f21 v4 ≤ o_h0_3.toInt - v2.toInt ∧ v2.toInt ≤ o_h0_3.toInt) ∧ (pm_R v4 1 0 11 f19 f20 f21 o_h2 o_h3 o_h4) ∧ (pg_loop f18 v1.toInt 124 124 (pg_tru f18 v1.toInt (pg_unit f18 v1.toInt 3)) 300 v2.toInt = (true, o_h0_3.toInt)) ∧ va_P (dC, dI) vwCl (wd_d906eaf1 h0 v0 h1 v1 o_h0_3 (-1) 3 h2 h3 h4 r0 r1 r2 r3 v3 v4 r4 r5 r6 r7 v5 r8 r9 v6 v7 r10 r11 v8 v9 r12 v10 v11 r13 v12 w13 r14 v14 v15 r15 r16 r17 r18 r19 r20 v16 r21 r22 r23 v17 h1 g0 f18 h2 g1 o_h2 h3 g2 o_h3 h4 g3 o_h4) t.heap ∧ va_K (dC, dI) vwCl [] t ∧ va_D (va_A (wd_d906eaf1 h0 v0 h1 v1 v2 (-1) 3 h2 h3 h4 r0 r1 r2 r3 v3 v4 r4 r5 r6 r7 v5 r8 r9 v6 v7 r10 r11 v8 v9 r12 v10 v11 r13 v12 w13 r14 v14 v15 r15 r16 r17 r18 r19 r20 v16 r21 r22 r23 v17 h1 g0 f18 h2 g1 f19 h3 g2 f20 h4 g3 f21) sz) (wd_d906eaf1 h0 v0 h1 v1 o_h0_3 (-1) 3 h2 h3 h4 r0 r1 r2 r3 v3 v4 r4 r5 r6 r7 v5 r8 r9 v6 v7 r10 r11 v8 v9 r12 v10 v11 r13 v12 w13 r14 v14 v15 r15 r16 r17 r18 r19 r20 v16 r21 r22 r23 v17 h1 g0 f18 h2 g1 o_h2 h3 g2 o_h3 h4 g3 o_h4)) ∨ (∃ (o_h0_3 : Int32) (o_h0_4 : Int32) (o_h0_5 : Int32) (o_h2 : Nat → Int32) (o_h3 : Nat → Int32) (o_h4 : Nat → Int32), 0 ≤ o_h0_3.toInt ∧ o_h0_3.toInt ≤ 243 ∧ 0 ≤ o_h0_4.toInt ∧ o_h0_4.toInt ≤ 240 ∧ (pm_x o_h4 v4 - pm_x f21 v4 ≤ o_h0_3.toInt - v2.toInt ∧ v2.toInt ≤ o_h0_3.toInt) ∧ (pm_F v4 f19 f20 f21 o_h2 o_h3 o_h4) ∧ (pg_loop f18 v1.toInt 124 124 (pg_tru f18 v1.toInt (pg_unit f18 v1.toInt 3)) 300 v2.toInt = (false, o_h0_4.toInt)) ∧ va_P (dC, dI) vwCl (wd_d906eaf1 h0 v0 h1 v1 o_h0_3 o_h0_4 o_h0_5 h2 h3 h4 r0 r1 r2 r3 v3 v4 r4 r5 r6 r7 v5 r8 r9 v6 v7 r10 r11 v8 v9 r12 v10 v11 r13 v12 w13 r14 v14 v15 r15 r16 r17 r18 r19 r20 v16 r21 r22 r23 v17 h1 g0 f18 h2 g1 o_h2 h3 g2 o_h3 h4 g3 o_h4) t.heap ∧ va_K (dC, dI) vwCl [] t ∧ va_D (va_A (wd_d906eaf1 h0 v0 h1 v1 v2 (-1) 3 h2 h3 h4 r0 r1 r2 r3 v3 v4 r4 r5 r6 r7 v5 r8 r9 v6 v7 r10 r11 v8 v9 r12 v10 v11 r13 v12 w13 r14 v14 v15 r15 r16 r17 r18 r19 r20 v16 r21 r22 r23 v17 h1 g0 f18 h2 g1 f19 h3 g2 f20 h4 g3 f21) sz) (wd_d906eaf1 h0 v0 h1 v1 o_h0_3 o_h0_4 o_h0_5 h2 h3 h4 r0 r1 r2 r3 v3 v4 r4 r5 r6 r7 v5 r8 r9 v6 v7 r10 r11 v8 v9 r12 v10 v11 r13 v12 w13 r14 v14 v15 r15 r16 r17 r18 r19 r20 v16 r21 r22 r23 v17 h1 g0 f18 h2 g1 o_h2 h3 g2 o_h3 h4 g3 o_h4))) (va_A (wd_d906eaf1 h0 v0 h1 v1 v2 (-1) 3 h2 h3 h4 r0 r1 r2 r3 v3 v4 r4 r5 r6 r7 v5 r8 r9 v6 v7 r10 r11 v8 v9 r12 v10 v11 r13 v12 w13 r14 v14 v15 r15 r16 r17 r18 r19 r20 v16 r21 r22 r23 v17 h1 g0 f18 h2 g1 f19 h3 g2 f20 h4 g3 f21) sz)) 0 0 (va_A (wd_d906eaf1 h0 v0 h1 v1 v2 (-1) 3 h2 h3 h4 r0 r1 r2 r3 v3 v4 r4 r5 r6 r7 v5 r8 r9 v6 v7 r10 r11 v8 v9 r12 v10 v11 r13 v12 w13 r14 v14 v15 r15 r16 r17 r18 r19 r20 v16 r21 r22 r23 v17 h1 g0 f18 h2 g1 f19 h3 g2 f20 h4 g3 f21) sz) := by
  refine Met.ofW (cc := cX12_goOnOr) (maxL := 1) (ret := none) (by decide) rfl ?_
  intro p e s m args below meth c s₁ B hml hv
  obtain ⟨i_v1a, i_v1b⟩ := i_v1
  obtain ⟨i_v2a, i_v2b⟩ := i_v2
  obtain ⟨i_v3a, i_v3b⟩ := i_v3
  obtain ⟨i_v4a, i_v4b⟩ := i_v4
  obtain ⟨i_v5a, i_v5b⟩ := i_v5
  obtain ⟨i_v6a, i_v6b⟩ := i_v6
  obtain ⟨i_v7a, i_v7b⟩ := i_v7
  obtain ⟨i_v8a, i_v8b⟩ := i_v8
  obtain ⟨i_v12a, i_v12b⟩ := i_v12
  obtain ⟨i_v16a, i_v16b⟩ := i_v16
  obtain ⟨i_v17a, i_v17b⟩ := i_v17
  obtain ⟨rfl, hsz, hP, hK, hD0⟩ := hv
  have hx := B.exec
  have hb := B.bytes
  have hr := B.returns
  have hts := atoms_spec (ws := q_X12_goOnOr_4) B.pre
  have hown : s.vm.findClass RX12 = some m.cls := findClass_of_methodNamed B.named
  have hlocks := B.notSynchronized
  subst hsz
  have hD := hD0.self (sz := s.heap.size)
  generalize hAe : va_A (wd_d906eaf1 h0 v0 h1 v1 v2 (-1) 3 h2 h3 h4 r0 r1 r2 r3 v3 v4 r4 r5 r6 r7 v5 r8 r9 v6 v7 r10 r11 v8 v9 r12 v10 v11 r13 v12 w13 r14 v14 v15 r15 r16 r17 r18 r19 r20 v16 r21 r22 r23 v17 h1 g0 f18 h2 g1 f19 h3 g2 f20 h4 g3 f21) s.heap.size = A at hD ⊢
  have hA : ∀ q : Nat, s.heap.size ≤ q → A q := fun q h => by rw [← hAe]; exact Or.inr h
  have hS : va_S A s.heap s.heap [] := va_S.rf
  generalize hQ : (MQ below _ _ s 0 0 A) = Q
  have hl := lv_entry ([.ref h0]) (n := 1) (Nat.le_of_ble_eq_true rfl)
  rw [lg_entry_eq]
  generalize (lg_sl ([.ref h0]) ++ List.replicate (1 - (lg_sl ([.ref h0])).length) Slot.unset).toArray = ls at hl ⊢
  have hl : lv_has ls 1 [(0, .ref h0)] := hl
  obtain ⟨H, hH⟩ : ∃ H : Heap, H = s.heap := ⟨_, rfl⟩
  obtain ⟨locs, hlocs⟩ : ∃ y : List Loc, y = [] := ⟨_, rfl⟩
  have hS : va_S A s.heap H locs := by rw [hH, hlocs]; exact va_S.rf
  have hP : va_P (dC, dI) vwCl (wd_d906eaf1 h0 v0 h1 v1 v2 (-1) 3 h2 h3 h4 r0 r1 r2 r3 v3 v4 r4 r5 r6 r7 v5 r8 r9 v6 v7 r10 r11 v8 v9 r12 v10 v11 r13 v12 w13 r14 v14 v15 r15 r16 r17 r18 r19 r20 v16 r21 r22 r23 v17 h1 g0 f18 h2 g1 f19 h3 g2 f20 h4 g3 f21) H := by rw [hH]; exact hP
  rw [← hH, ← hlocs]
  have px1 := pp0.1; have px2 := pp0.2
  have hgR := pm_R.refl (L := 1) v4 f19 f20 f21 px1
  have hgF := hgR.1
  have hL9 : ∀ (n9 : Nat), ∀ (x1 : Int32) (fn2 : Nat → Int32) (fn3 : Nat → Int32) (fn4 : Nat → Int32) (H : Heap) (locs : List Loc) (ls : Array Slot), 0 ≤ x1.toInt → x1.toInt ≤ 240 → (pm_x fn4 v4 - pm_x f21 v4 ≤ x1.toInt - v2.toInt ∧ v2.toInt ≤ x1.toInt) → (pm_R v4 1 0 11 f19 f20 f21 fn2 fn3 fn4) → (pg_L f18 v1.toInt 124 124 (pg_tru f18 v1.toInt (pg_unit f18 v1.toInt 3)) x1.toInt (pg_loop f18 v1.toInt 124 124 (pg_tru f18 v1.toInt (pg_unit f18 v1.toInt 3)) 300 v2.toInt)) → (300 - x1.toInt).toNat < n9 → va_P (dC, dI) vwCl (wd_d906eaf1 h0 v0 h1 v1 x1 (-1) 3 h2 h3 h4 r0 r1 r2 r3 v3 v4 r4 r5 r6 r7 v5 r8 r9 v6 v7 r10 r11 v8 v9 r12 v10 v11 r13 v12 w13 r14 v14 v15 r15 r16 r17 r18 r19 r20 v16 r21 r22 r23 v17 h1 g0 f18 h2 g1 fn2 h3 g2 fn3 h4 g3 fn4) H → va_D A (wd_d906eaf1 h0 v0 h1 v1 x1 (-1) 3 h2 h3 h4 r0 r1 r2 r3 v3 v4 r4 r5 r6 r7 v5 r8 r9 v6 v7 r10 r11 v8 v9 r12 v10 v11 r13 v12 w13 r14 v14 v15 r15 r16 r17 r18 r19 r20 v16 r21 r22 r23 v17 h1 g0 f18 h2 g1 fn2 h3 g2 fn3 h4 g3 fn4) → va_S A s.heap H locs → lv_has ls 1 [(0, .ref h0)] → W p l e ({ frames := 20, cells := 0, slots := 0, locals := 410 }) s m ([.ref h0] : List Value).toArray below meth c H locs 0 0 Q (F0 m 0 ls []) := by
    intro n9
    induction n9 with
    | zero => intro x1 fn2 fn3 fn4 H locs ls qa_x1 qb_x1 gh0_hL9 gh1_hL9 gh2_hL9 hm9 hP hD hS hl; exact absurd hm9 (Nat.not_lt_zero _)
    | succ n9 ih_hL9 =>
      intro x1 fn2 fn3 fn4 H locs ls qa_x1 qb_x1 gh0_hL9 gh1_hL9 gh2_hL9 hm9 hP hD hS hl
      have hgR := gh1_hL9; have hgF := hgR.1; have hxl := hgF.1
      refine lv_aload_n hx hb dX12_goOnOr_0 rfl (lv_at hl 0 rfl) ?_
      refine va_get (D := (dC, dI)) (ci := 12) (v := .int (-1)) (C := RX12) (T := TX12) (N := 48) hx hb hts (fun _ h => List.mem_cons_of_mem _ (List.mem_append_right _ h)) hown hK hP 0 rfl rfl 4 (by decide) (hts (.fieldLink RX12 119 "LeftArgumentsModel" "wrong" "I") (List.mem_cons_of_mem _ (List.mem_append_left _ (List.mem_of_getElem? (i := 0) rfl)))) (fun _ h9 => h9) rfl dX12_goOnOr_1 ?_
      refine lv_iconst (v := (-1)) hx hb dX12_goOnOr_4 (by decide) ?_
      refine lv_icmp_ne (tgt := 45) hx hb dX12_goOnOr_5 (by decide) (fun c => absurd (by decide) c) (fun _ => ?_)
      refine lv_aload_n hx hb dX12_goOnOr_8 rfl (lv_at hl 0 rfl) ?_
      have hPc := hP.sub (ws' := (wd_f4cd022e h0 v0 h1 v1 x1 (-1) 3 h2 h3 h4 r0 r1 r2 r3 v3 v4 r4 r5 r6 r7 v5 r8 r9 v6 v7 r10 r11 v8 v9 r12 v10 v11 r13 v12 w13 r14 v14 v15 r15 r16 r17 r18 r19 r20 v16 r21 r22 r23 v17 h1 g0 f18)) [0, 1] rfl
      have hDc := hD.sub (ws' := (wd_f4cd022e h0 v0 h1 v1 x1 (-1) 3 h2 h3 h4 r0 r1 r2 r3 v3 v4 r4 r5 r6 r7 v5 r8 r9 v6 v7 r10 r11 v8 v9 r12 v10 v11 r13 v12 w13 r14 v14 v15 r15 r16 r17 r18 r19 r20 v16 r21 r22 r23 v17 h1 g0 f18)) [0, 1] (by decide) rfl
      have hKc := hK.sub (tys' := [(g0, .int)]) [0] rfl
      have hFc := va_free (wc := (wd_f4cd022e h0 v0 h1 v1 x1 (-1) 3 h2 h3 h4 r0 r1 r2 r3 v3 v4 r4 r5 r6 r7 v5 r8 r9 v6 v7 r10 r11 v8 v9 r12 v10 v11 r13 v12 w13 r14 v14 v15 r15 r16 r17 r18 r19 r20 v16 r21 r22 r23 v17 h1 g0 f18)) hD hS hA [0, 1] rfl
      refine va_calli (va_runV (As := []) (rest := []) ⟨hx, hb, hml, hown, hts⟩ (k_X12_look l dC dI h0 h1 v0 v1 x1 ((-1)) 3 h2 h3 h4 r0 r1 r2 r3 v3 v4 r4 r5 r6 r7 v5 r8 r9 v6 v7 r10 r11 v8 v9 r12 v10 v11 r13 v12 w13 r14 v14 v15 r15 r16 r17 r18 r19 r20 v16 r21 r22 r23 v17 g0 f18 ⟨i_v1a, i_v1b⟩ ⟨qa_x1, qb_x1⟩ ⟨i_v3a, i_v3b⟩ ⟨i_v4a, i_v4b⟩ ⟨i_v5a, i_v5b⟩ ⟨i_v6a, i_v6b⟩ ⟨i_v7a, i_v7b⟩ ⟨i_v8a, i_v8b⟩ ⟨i_v12a, i_v12b⟩ ⟨i_v16a, i_v16b⟩ ⟨i_v17a, i_v17b⟩ ia_f18 H.size) (cwV 0 hts g_X12_goOnOr_4_0 rfl rfl rfl (by decide +kernel) ⟨Nat.le_of_ble_eq_true rfl, Nat.le_of_ble_eq_true rfl⟩) (pv_PV12 hPc hKc hDc (q0 := 0) rfl) rfl rfl hl.1 rfl (lv_room (Nat.le_of_ble_eq_true rfl)) dX12_goOnOr_9 ⟨Nat.le_of_ble_eq_true rfl, Nat.le_of_ble_eq_true rfl⟩) hS (fun q _ h => hFc q h) hFc (fun ra10 u t H1 locs ht hvm hwra10 hB hz1 hk1 hS => ?_)
      try rw [hwra10] at hB
      have hkra10_0 : (((-1) : Int32)).toInt = -1 := by decide
      have hkra10_1 : ((3 : Int32)).toInt = 3 := by decide
      rcases hB with hB | hB
      · skip
        obtain ⟨x11, oa_x11, ob_x11, pt0_ra10, pt1_ra10, pt2_ra10, pt3_ra10, pt4_ra10, pt5_ra10, pt6_ra10, hP1, hK1, hD1⟩ := hB
        rw [ht] at hP1
        obtain ⟨hP2, hD2⟩ := va_join (wr := (wd_ad0642e8 h2 g1 fn2 h3 g2 fn3 h4 g3 fn4)) (w1 := (wd_f4cd022e h0 v0 h1 v1 x11 (-1) 3 h2 h3 h4 r0 r1 r2 r3 v3 v4 r4 r5 r6 r7 v5 r8 r9 v6 v7 r10 r11 v8 v9 r12 v10 v11 r13 v12 w13 r14 v14 v15 r15 r16 r17 r18 r19 r20 v16 r21 r22 r23 v17 h1 g0 f18)) hP hD [0, 1] [2, 3, 4] rfl rfl (by decide) (by decide) hk1 hFc hP1 hD1
        clear hP hD hPc hDc hKc hFc hP1 hK1 hD1 hk1 hz1
        generalize H1 = H at hP2 hS ⊢
        have hP := hP2.sub (ws' := (wd_d906eaf1 h0 v0 h1 v1 x11 (-1) 3 h2 h3 h4 r0 r1 r2 r3 v3 v4 r4 r5 r6 r7 v5 r8 r9 v6 v7 r10 r11 v8 v9 r12 v10 v11 r13 v12 w13 r14 v14 v15 r15 r16 r17 r18 r19 r20 v16 r21 r22 r23 v17 h1 g0 f18 h2 g1 fn2 h3 g2 fn3 h4 g3 fn4)) [3, 4, 0, 1, 2] rfl
        have hD := hD2.sub (ws' := (wd_d906eaf1 h0 v0 h1 v1 x11 (-1) 3 h2 h3 h4 r0 r1 r2 r3 v3 v4 r4 r5 r6 r7 v5 r8 r9 v6 v7 r10 r11 v8 v9 r12 v10 v11 r13 v12 w13 r14 v14 v15 r15 r16 r17 r18 r19 r20 v16 r21 r22 r23 v17 h1 g0 f18 h2 g1 fn2 h3 g2 fn3 h4 g3 fn4)) [3, 4, 0, 1, 2] (by decide) rfl
        clear hP2 hD2
        obtain rfl : ra10 = ((-1) : Int32) := pv_cs (by decide) pt0_ra10 pt1_ra10
        refine lv_bipush (v := 124) hx hb dX12_goOnOr_12 (by decide) ?_
        refine lv_icmp_ne (tgt := 45) hx hb dX12_goOnOr_14 (by decide) (fun _ => ?_) (fun c => absurd c (by decide))
        subst hQ
        have hP9 := hP.sub (ws' := (wd_d906eaf1 h0 v0 h1 v1 x11 (-1) 3 h2 h3 h4 r0 r1 r2 r3 v3 v4 r4 r5 r6 r7 v5 r8 r9 v6 v7 r10 r11 v8 v9 r12 v10 v11 r13 v12 w13 r14 v14 v15 r15 r16 r17 r18 r19 r20 v16 r21 r22 r23 v17 h1 g0 f18 h2 g1 fn2 h3 g2 fn3 h4 g3 fn4)) [0, 1, 2, 3, 4] rfl
        have hD9 := hD.sub (ws' := (wd_d906eaf1 h0 v0 h1 v1 x11 (-1) 3 h2 h3 h4 r0 r1 r2 r3 v3 v4 r4 r5 r6 r7 v5 r8 r9 v6 v7 r10 r11 v8 v9 r12 v10 v11 r13 v12 w13 r14 v14 v15 r15 r16 r17 r18 r19 r20 v16 r21 r22 r23 v17 h1 g0 f18 h2 g1 fn2 h3 g2 fn3 h4 g3 fn4)) [0, 1, 2, 3, 4] (by decide) rfl
        have hK9 := hK.sub (tys' := []) [] rfl
        exact W.vret hx hb hr (fun t ht hW => ⟨⟨(), rfl, trivial, Or.inl ⟨x11, fn2, fn3, fn4, oa_x11, ob_x11, by constructor <;> omega, by exact hgR.mono (by decide), by first | assumption | (apply pg_lp.stop <;> first | assumption | omega) | (apply pg_L.stop <;> first | assumption | omega), by rw [ht]; exact hP9, va_K.moved hW.alike hK9, hD9⟩⟩, hS.F ht⟩) hS.2.2 dX12_goOnOr_45
      · skip
        obtain ⟨x12, oa_x12, ob_x12, pt0_ra10, pt1_ra10, pt2_ra10, pt3_ra10, pt4_ra10, pt5_ra10, pt6_ra10, pt7_ra10, hP1, hK1, hD1⟩ := hB
        rw [ht] at hP1
        obtain ⟨hP2, hD2⟩ := va_join (wr := (wd_ad0642e8 h2 g1 fn2 h3 g2 fn3 h4 g3 fn4)) (w1 := (wd_f4cd022e h0 v0 h1 v1 x12 (-1) 3 h2 h3 h4 r0 r1 r2 r3 v3 v4 r4 r5 r6 r7 v5 r8 r9 v6 v7 r10 r11 v8 v9 r12 v10 v11 r13 v12 w13 r14 v14 v15 r15 r16 r17 r18 r19 r20 v16 r21 r22 r23 v17 h1 g0 f18)) hP hD [0, 1] [2, 3, 4] rfl rfl (by decide) (by decide) hk1 hFc hP1 hD1
        clear hP hD hPc hDc hKc hFc hP1 hK1 hD1 hk1 hz1
        generalize H1 = H at hP2 hS ⊢
        have hP := hP2.sub (ws' := (wd_d906eaf1 h0 v0 h1 v1 x12 (-1) 3 h2 h3 h4 r0 r1 r2 r3 v3 v4 r4 r5 r6 r7 v5 r8 r9 v6 v7 r10 r11 v8 v9 r12 v10 v11 r13 v12 w13 r14 v14 v15 r15 r16 r17 r18 r19 r20 v16 r21 r22 r23 v17 h1 g0 f18 h2 g1 fn2 h3 g2 fn3 h4 g3 fn4)) [3, 4, 0, 1, 2] rfl
        have hD := hD2.sub (ws' := (wd_d906eaf1 h0 v0 h1 v1 x12 (-1) 3 h2 h3 h4 r0 r1 r2 r3 v3 v4 r4 r5 r6 r7 v5 r8 r9 v6 v7 r10 r11 v8 v9 r12 v10 v11 r13 v12 w13 r14 v14 v15 r15 r16 r17 r18 r19 r20 v16 r21 r22 r23 v17 h1 g0 f18 h2 g1 fn2 h3 g2 fn3 h4 g3 fn4)) [3, 4, 0, 1, 2] (by decide) rfl
        clear hP2 hD2
        refine lv_bipush (v := 124) hx hb dX12_goOnOr_12 (by decide) ?_
        refine lv_icmp_ne (tgt := 45) hx hb dX12_goOnOr_14 (by decide) (fun c13 => ?_) (fun c13 => ?_)
        · skip
          have fc13 : ¬ (ra10.toInt = 124) := fun h9 => c13 (Int32.toInt_inj.mp h9)
          subst hQ
          have hP9 := hP.sub (ws' := (wd_d906eaf1 h0 v0 h1 v1 x12 (-1) 3 h2 h3 h4 r0 r1 r2 r3 v3 v4 r4 r5 r6 r7 v5 r8 r9 v6 v7 r10 r11 v8 v9 r12 v10 v11 r13 v12 w13 r14 v14 v15 r15 r16 r17 r18 r19 r20 v16 r21 r22 r23 v17 h1 g0 f18 h2 g1 fn2 h3 g2 fn3 h4 g3 fn4)) [0, 1, 2, 3, 4] rfl
          have hD9 := hD.sub (ws' := (wd_d906eaf1 h0 v0 h1 v1 x12 (-1) 3 h2 h3 h4 r0 r1 r2 r3 v3 v4 r4 r5 r6 r7 v5 r8 r9 v6 v7 r10 r11 v8 v9 r12 v10 v11 r13 v12 w13 r14 v14 v15 r15 r16 r17 r18 r19 r20 v16 r21 r22 r23 v17 h1 g0 f18 h2 g1 fn2 h3 g2 fn3 h4 g3 fn4)) [0, 1, 2, 3, 4] (by decide) rfl
          have hK9 := hK.sub (tys' := []) [] rfl
          exact W.vret hx hb hr (fun t ht hW => ⟨⟨(), rfl, trivial, Or.inl ⟨x12, fn2, fn3, fn4, oa_x12, by first | omega | decide, by constructor <;> omega, by exact hgR.mono (by decide), by first | assumption | (apply pg_lp.stop <;> first | assumption | omega) | (apply pg_L.stop <;> first | assumption | omega), by rw [ht]; exact hP9, va_K.moved hW.alike hK9, hD9⟩⟩, hS.F ht⟩) hS.2.2 dX12_goOnOr_45
        · skip
          have fc13 : ra10.toInt = 124 := congrArg Int32.toInt c13
          refine lv_aload_n hx hb dX12_goOnOr_17 rfl (lv_at hl 0 rfl) ?_
          refine lv_dup hx hb dX12_goOnOr_18 rfl ?_
          refine va_get (D := (dC, dI)) (ci := 12) (v := .int x12) (C := RX12) (T := TX12) (N := 48) hx hb hts (fun _ h => List.mem_cons_of_mem _ (List.mem_append_right _ h)) hown hK hP 0 rfl rfl 3 (by decide) (hts (.fieldLink RX12 112 "LeftArgumentsModel" "at" "I") (List.mem_cons_of_mem _ (List.mem_append_left _ (List.mem_of_getElem? (i := 3) rfl)))) (fun _ h9 => h9) rfl dX12_goOnOr_19 ?_
          refine lv_iconst (v := 1) hx hb dX12_goOnOr_22 (by decide) ?_
          refine lv_iadd hx hb dX12_goOnOr_23 ?_
          refine lv_topi (fun t14 et14 => ?_)
          have gt14 : t14.toInt = x12.toInt + 1 := pv_add (a := x12.toInt) (b := 1) et14 rfl (by decide) (by omega) (by omega)
          refine va_put (D := (dC, dI)) (ci := 12) (v := .int t14) (ty := .int) (C := RX12) (T := TX12) (N := 48) hx hb hts (fun _ h => List.mem_cons_of_mem _ (List.mem_append_right _ h)) tyX12 tyX12_ok nmX12 hown hK hP hD hS 0 rfl rfl 3 (by decide) (hts (.fieldLink RX12 112 "LeftArgumentsModel" "at" "I") (List.mem_cons_of_mem _ (List.mem_append_left _ (List.mem_of_getElem? (i := 3) rfl)))) (fun _ h9 => h9) rfl (by decide +kernel) rfl rfl (Nat.le_of_ble_eq_true rfl) dX12_goOnOr_24 (fun H locs hP hD hS => ?_)
          have hP : va_P (dC, dI) vwCl (wd_d906eaf1 h0 v0 h1 v1 t14 (-1) 3 h2 h3 h4 r0 r1 r2 r3 v3 v4 r4 r5 r6 r7 v5 r8 r9 v6 v7 r10 r11 v8 v9 r12 v10 v11 r13 v12 w13 r14 v14 v15 r15 r16 r17 r18 r19 r20 v16 r21 r22 r23 v17 h1 g0 f18 h2 g1 fn2 h3 g2 fn3 h4 g3 fn4) H := hP
          have hD : va_D A (wd_d906eaf1 h0 v0 h1 v1 t14 (-1) 3 h2 h3 h4 r0 r1 r2 r3 v3 v4 r4 r5 r6 r7 v5 r8 r9 v6 v7 r10 r11 v8 v9 r12 v10 v11 r13 v12 w13 r14 v14 v15 r15 r16 r17 r18 r19 r20 v16 r21 r22 r23 v17 h1 g0 f18 h2 g1 fn2 h3 g2 fn3 h4 g3 fn4) := hD
          refine lv_aload_n hx hb dX12_goOnOr_27 rfl (lv_at hl 0 rfl) ?_
          have hPc := hP.sub (ws' := (wd_d906eaf1 h0 v0 h1 v1 t14 (-1) 3 h2 h3 h4 r0 r1 r2 r3 v3 v4 r4 r5 r6 r7 v5 r8 r9 v6 v7 r10 r11 v8 v9 r12 v10 v11 r13 v12 w13 r14 v14 v15 r15 r16 r17 r18 r19 r20 v16 r21 r22 r23 v17 h1 g0 f18 h2 g1 fn2 h3 g2 fn3 h4 g3 fn4)) [0, 1, 2, 3, 4] rfl
          have hDc := hD.sub (ws' := (wd_d906eaf1 h0 v0 h1 v1 t14 (-1) 3 h2 h3 h4 r0 r1 r2 r3 v3 v4 r4 r5 r6 r7 v5 r8 r9 v6 v7 r10 r11 v8 v9 r12 v10 v11 r13 v12 w13 r14 v14 v15 r15 r16 r17 r18 r19 r20 v16 r21 r22 r23 v17 h1 g0 f18 h2 g1 fn2 h3 g2 fn3 h4 g3 fn4)) [0, 1, 2, 3, 4] (by decide) rfl
          have hKc := hK.sub (tys' := [(g0, .int), (g1, .int), (g2, .int), (g3, .int)]) [0, 1, 2, 3] rfl
          have hFc := va_free (wc := (wd_d906eaf1 h0 v0 h1 v1 t14 (-1) 3 h2 h3 h4 r0 r1 r2 r3 v3 v4 r4 r5 r6 r7 v5 r8 r9 v6 v7 r10 r11 v8 v9 r12 v10 v11 r13 v12 w13 r14 v14 v15 r15 r16 r17 r18 r19 r20 v16 r21 r22 r23 v17 h1 g0 f18 h2 g1 fn2 h3 g2 fn3 h4 g3 fn4)) hD hS hA [0, 1, 2, 3, 4] rfl
          refine va_callv (va_runV (As := []) (rest := []) ⟨hx, hb, hml, hown, hts⟩ (k_X12_unit_3 l dC dI h0 h1 h2 h3 h4 v0 v1 t14 r0 r1 r2 r3 v3 v4 r4 r5 r6 r7 v5 r8 r9 v6 v7 r10 r11 v8 v9 r12 v10 v11 r13 v12 w13 r14 v14 v15 r15 r16 r17 r18 r19 r20 v16 r21 r22 r23 v17 g0 f18 g1 fn2 g2 fn3 g3 fn4 ⟨i_v1a, i_v1b⟩ ⟨by first | omega | decide, by first | omega | decide⟩ ⟨i_v3a, i_v3b⟩ ⟨i_v4a, i_v4b⟩ ⟨i_v5a, i_v5b⟩ ⟨i_v6a, i_v6b⟩ ⟨i_v7a, i_v7b⟩ ⟨i_v8a, i_v8b⟩ ⟨i_v12a, i_v12b⟩ ⟨i_v16a, i_v16b⟩ ⟨i_v17a, i_v17b⟩ ia_f18 (by constructor <;> omega) H.size) (cwV 0 hts g_X12_goOnOr_4_1 rfl rfl rfl (by decide +kernel) ⟨Nat.le_of_ble_eq_true rfl, Nat.le_of_ble_eq_true rfl⟩) (pv_PV12 hPc hKc hDc (q0 := 0) rfl) rfl rfl hl.1 rfl (lv_room (Nat.le_of_ble_eq_true rfl)) dX12_goOnOr_28 ⟨Nat.le_of_ble_eq_true rfl, Nat.le_of_ble_eq_true rfl⟩) hS (fun q _ h => hFc q h) hFc (fun u t H1 locs ht hvm hwra15 hB hz1 hk1 hS => ?_)
          rcases hB with hB | hB
          · skip
            obtain ⟨x16, fn17, fn18, fn19, oa_x16, ob_x16, pt0_ra15, pt1_ra15, pt2_ra15, hP1, hK1, hD1⟩ := hB
            rw [ht] at hP1
            obtain ⟨hP2, hD2⟩ := va_join (wr := []) (w1 := (wd_d906eaf1 h0 v0 h1 v1 x16 (-1) 3 h2 h3 h4 r0 r1 r2 r3 v3 v4 r4 r5 r6 r7 v5 r8 r9 v6 v7 r10 r11 v8 v9 r12 v10 v11 r13 v12 w13 r14 v14 v15 r15 r16 r17 r18 r19 r20 v16 r21 r22 r23 v17 h1 g0 f18 h2 g1 fn17 h3 g2 fn18 h4 g3 fn19)) hP hD [0, 1, 2, 3, 4] [] rfl rfl (by decide) (by decide) hk1 hFc hP1 hD1
            clear hP hD hPc hDc hKc hFc hP1 hK1 hD1 hk1 hz1
            generalize H1 = H at hP2 hS ⊢
            have hP : va_P (dC, dI) vwCl (wd_d906eaf1 h0 v0 h1 v1 x16 (-1) 3 h2 h3 h4 r0 r1 r2 r3 v3 v4 r4 r5 r6 r7 v5 r8 r9 v6 v7 r10 r11 v8 v9 r12 v10 v11 r13 v12 w13 r14 v14 v15 r15 r16 r17 r18 r19 r20 v16 r21 r22 r23 v17 h1 g0 f18 h2 g1 fn17 h3 g2 fn18 h4 g3 fn19) H := hP2
            have hD : va_D A (wd_d906eaf1 h0 v0 h1 v1 x16 (-1) 3 h2 h3 h4 r0 r1 r2 r3 v3 v4 r4 r5 r6 r7 v5 r8 r9 v6 v7 r10 r11 v8 v9 r12 v10 v11 r13 v12 w13 r14 v14 v15 r15 r16 r17 r18 r19 r20 v16 r21 r22 r23 v17 h1 g0 f18 h2 g1 fn17 h3 g2 fn18 h4 g3 fn19) := hD2
            clear hP2 hD2
            have hgR := hgR.app (k' := 1) (D := 11) pt1_ra15 (by decide) (by decide) (by decide) (by decide)
            have hgF := hgR.1
            have hxl := hgF.1
            refine lv_aload_n hx hb dX12_goOnOr_31 rfl (lv_at hl 0 rfl) ?_
            have hPc := hP.sub (ws' := (wd_d906eaf1 h0 v0 h1 v1 x16 (-1) 3 h2 h3 h4 r0 r1 r2 r3 v3 v4 r4 r5 r6 r7 v5 r8 r9 v6 v7 r10 r11 v8 v9 r12 v10 v11 r13 v12 w13 r14 v14 v15 r15 r16 r17 r18 r19 r20 v16 r21 r22 r23 v17 h1 g0 f18 h2 g1 fn17 h3 g2 fn18 h4 g3 fn19)) [0, 1, 2, 3, 4] rfl
            have hDc := hD.sub (ws' := (wd_d906eaf1 h0 v0 h1 v1 x16 (-1) 3 h2 h3 h4 r0 r1 r2 r3 v3 v4 r4 r5 r6 r7 v5 r8 r9 v6 v7 r10 r11 v8 v9 r12 v10 v11 r13 v12 w13 r14 v14 v15 r15 r16 r17 r18 r19 r20 v16 r21 r22 r23 v17 h1 g0 f18 h2 g1 fn17 h3 g2 fn18 h4 g3 fn19)) [0, 1, 2, 3, 4] (by decide) rfl
            have hKc := hK.sub (tys' := [(g0, .int), (g1, .int), (g2, .int), (g3, .int)]) [0, 1, 2, 3] rfl
            have hFc := va_free (wc := (wd_d906eaf1 h0 v0 h1 v1 x16 (-1) 3 h2 h3 h4 r0 r1 r2 r3 v3 v4 r4 r5 r6 r7 v5 r8 r9 v6 v7 r10 r11 v8 v9 r12 v10 v11 r13 v12 w13 r14 v14 v15 r15 r16 r17 r18 r19 r20 v16 r21 r22 r23 v17 h1 g0 f18 h2 g1 fn17 h3 g2 fn18 h4 g3 fn19)) hD hS hA [0, 1, 2, 3, 4] rfl
            refine va_callv (va_runV (As := []) (rest := []) ⟨hx, hb, hml, hown, hts⟩ (k_X12_goOnAnd_4 l dC dI h0 h1 h2 h3 h4 v0 v1 x16 r0 r1 r2 r3 v3 v4 r4 r5 r6 r7 v5 r8 r9 v6 v7 r10 r11 v8 v9 r12 v10 v11 r13 v12 w13 r14 v14 v15 r15 r16 r17 r18 r19 r20 v16 r21 r22 r23 v17 g0 f18 g1 fn17 g2 fn18 g3 fn19 ⟨i_v1a, i_v1b⟩ ⟨oa_x16, ob_x16⟩ ⟨i_v3a, i_v3b⟩ ⟨i_v4a, i_v4b⟩ ⟨i_v5a, i_v5b⟩ ⟨i_v6a, i_v6b⟩ ⟨i_v7a, i_v7b⟩ ⟨i_v8a, i_v8b⟩ ⟨i_v12a, i_v12b⟩ ⟨i_v16a, i_v16b⟩ ⟨i_v17a, i_v17b⟩ ia_f18 (by constructor <;> omega) H.size) (cwV 0 hts g_X12_goOnOr_4_2 rfl rfl rfl (by decide +kernel) ⟨Nat.le_of_ble_eq_true rfl, Nat.le_of_ble_eq_true rfl⟩) (pv_PV12 hPc hKc hDc (q0 := 0) rfl) rfl rfl hl.1 rfl (lv_room (Nat.le_of_ble_eq_true rfl)) dX12_goOnOr_32 ⟨Nat.le_of_ble_eq_true rfl, Nat.le_of_ble_eq_true rfl⟩) hS (fun q _ h => hFc q h) hFc (fun u t H1 locs ht hvm hwra20 hB hz1 hk1 hS => ?_)
            rcases hB with hB | hB
            · skip
              obtain ⟨x21, fn22, fn23, fn24, oa_x21, ob_x21, pt0_ra20, pt1_ra20, pt2_ra20, hP1, hK1, hD1⟩ := hB
              rw [ht] at hP1
              obtain ⟨hP2, hD2⟩ := va_join (wr := []) (w1 := (wd_d906eaf1 h0 v0 h1 v1 x21 (-1) 3 h2 h3 h4 r0 r1 r2 r3 v3 v4 r4 r5 r6 r7 v5 r8 r9 v6 v7 r10 r11 v8 v9 r12 v10 v11 r13 v12 w13 r14 v14 v15 r15 r16 r17 r18 r19 r20 v16 r21 r22 r23 v17 h1 g0 f18 h2 g1 fn22 h3 g2 fn23 h4 g3 fn24)) hP hD [0, 1, 2, 3, 4] [] rfl rfl (by decide) (by decide) hk1 hFc hP1 hD1
              clear hP hD hPc hDc hKc hFc hP1 hK1 hD1 hk1 hz1
              generalize H1 = H at hP2 hS ⊢
              have hP : va_P (dC, dI) vwCl (wd_d906eaf1 h0 v0 h1 v1 x21 (-1) 3 h2 h3 h4 r0 r1 r2 r3 v3 v4 r4 r5 r6 r7 v5 r8 r9 v6 v7 r10 r11 v8 v9 r12 v10 v11 r13 v12 w13 r14 v14 v15 r15 r16 r17 r18 r19 r20 v16 r21 r22 r23 v17 h1 g0 f18 h2 g1 fn22 h3 g2 fn23 h4 g3 fn24) H := hP2
              have hD : va_D A (wd_d906eaf1 h0 v0 h1 v1 x21 (-1) 3 h2 h3 h4 r0 r1 r2 r3 v3 v4 r4 r5 r6 r7 v5 r8 r9 v6 v7 r10 r11 v8 v9 r12 v10 v11 r13 v12 w13 r14 v14 v15 r15 r16 r17 r18 r19 r20 v16 r21 r22 r23 v17 h1 g0 f18 h2 g1 fn22 h3 g2 fn23 h4 g3 fn24) := hD2
              clear hP2 hD2
              have hgR := hgR.app (k' := 1) (D := 11) pt1_ra20 (by decide) (by decide) (by decide) (by decide)
              have hgF := hgR.1
              have hxl := hgF.1
              refine lv_aload_n hx hb dX12_goOnOr_35 rfl (lv_at hl 0 rfl) ?_
              refine lv_bipush (v := 11) hx hb dX12_goOnOr_36 (by decide) ?_
              refine lv_iconst (v := 0) hx hb dX12_goOnOr_38 (by decide) ?_
              have hPc := hP.sub (ws' := (wd_c62683a8 h0 v0 h1 v1 x21 (-1) 3 h2 h3 h4 r0 r1 r2 r3 v3 v4 r4 r5 r6 r7 v5 r8 r9 v6 v7 r10 r11 v8 v9 r12 v10 v11 r13 v12 w13 r14 v14 v15 r15 r16 r17 r18 r19 r20 v16 r21 r22 r23 v17 h2 g1 fn22 h3 g2 fn23 h4 g3 fn24)) [0, 2, 3, 4] rfl
              have hDc := hD.sub (ws' := (wd_c62683a8 h0 v0 h1 v1 x21 (-1) 3 h2 h3 h4 r0 r1 r2 r3 v3 v4 r4 r5 r6 r7 v5 r8 r9 v6 v7 r10 r11 v8 v9 r12 v10 v11 r13 v12 w13 r14 v14 v15 r15 r16 r17 r18 r19 r20 v16 r21 r22 r23 v17 h2 g1 fn22 h3 g2 fn23 h4 g3 fn24)) [0, 2, 3, 4] (by decide) rfl
              have hKc := hK.sub (tys' := [(g1, .int), (g2, .int), (g3, .int)]) [1, 2, 3] rfl
              have hFc := va_free (wc := (wd_c62683a8 h0 v0 h1 v1 x21 (-1) 3 h2 h3 h4 r0 r1 r2 r3 v3 v4 r4 r5 r6 r7 v5 r8 r9 v6 v7 r10 r11 v8 v9 r12 v10 v11 r13 v12 w13 r14 v14 v15 r15 r16 r17 r18 r19 r20 v16 r21 r22 r23 v17 h2 g1 fn22 h3 g2 fn23 h4 g3 fn24)) hD hS hA [0, 2, 3, 4] rfl
              refine va_callv (va_runV (As := [.int 11, .int 0]) (rest := []) ⟨hx, hb, hml, hown, hts⟩ (k_X12_put l dC dI h0 h2 h3 h4 v0 h1 v1 x21 ((-1)) 3 r0 r1 r2 r3 v3 v4 r4 r5 r6 r7 v5 r8 r9 v6 v7 r10 r11 v8 v9 r12 v10 v11 r13 v12 w13 r14 v14 v15 r15 r16 r17 r18 r19 r20 v16 r21 r22 r23 v17 g1 fn22 g2 fn23 g3 fn24 11 0 ⟨i_v1a, i_v1b⟩ ⟨i_v3a, i_v3b⟩ ⟨i_v4a, i_v4b⟩ ⟨i_v5a, i_v5b⟩ ⟨i_v6a, i_v6b⟩ ⟨i_v7a, i_v7b⟩ ⟨i_v8a, i_v8b⟩ ⟨i_v12a, i_v12b⟩ ⟨i_v16a, i_v16b⟩ ⟨i_v17a, i_v17b⟩ (by constructor <;> omega) H.size) (cwV 2 hts g_X12_goOnOr_4_3 rfl rfl rfl (by decide +kernel) ⟨Nat.le_of_ble_eq_true rfl, Nat.le_of_ble_eq_true rfl⟩) (pv_PV12 hPc hKc hDc (q0 := 0) rfl) rfl rfl hl.1 rfl (lv_room (Nat.le_of_ble_eq_true rfl)) dX12_goOnOr_39 ⟨Nat.le_of_ble_eq_true rfl, Nat.le_of_ble_eq_true rfl⟩) hS (fun q _ h => hFc q h) hFc (fun u t H1 locs ht hvm hwra25 hB hz1 hk1 hS => ?_)
              have hkra25_0 : (((-1) : Int32)).toInt = -1 := by decide
              have hkra25_1 : ((0 : Int32)).toInt = 0 := by decide
              have hkra25_2 : ((3 : Int32)).toInt = 3 := by decide
              have hkra25_3 : ((11 : Int32)).toInt = 11 := by decide
              obtain ⟨fn26, fn27, fn28, pt0_ra25, hP1, hK1, hD1⟩ := hB
              rw [ht] at hP1
              obtain ⟨hP2, hD2⟩ := va_join (wr := (wd_d0032b31 h1 g0 f18)) (w1 := (wd_c62683a8 h0 v0 h1 v1 x21 (-1) 3 h2 h3 h4 r0 r1 r2 r3 v3 v4 r4 r5 r6 r7 v5 r8 r9 v6 v7 r10 r11 v8 v9 r12 v10 v11 r13 v12 w13 r14 v14 v15 r15 r16 r17 r18 r19 r20 v16 r21 r22 r23 v17 h2 g1 fn26 h3 g2 fn27 h4 g3 fn28)) hP hD [0, 2, 3, 4] [1] rfl rfl (by decide) (by decide) hk1 hFc hP1 hD1
              clear hP hD hPc hDc hKc hFc hP1 hK1 hD1 hk1 hz1
              generalize H1 = H at hP2 hS ⊢
              have hP := hP2.sub (ws' := (wd_d906eaf1 h0 v0 h1 v1 x21 (-1) 3 h2 h3 h4 r0 r1 r2 r3 v3 v4 r4 r5 r6 r7 v5 r8 r9 v6 v7 r10 r11 v8 v9 r12 v10 v11 r13 v12 w13 r14 v14 v15 r15 r16 r17 r18 r19 r20 v16 r21 r22 r23 v17 h1 g0 f18 h2 g1 fn26 h3 g2 fn27 h4 g3 fn28)) [1, 0, 2, 3, 4] rfl
              have hD := hD2.sub (ws' := (wd_d906eaf1 h0 v0 h1 v1 x21 (-1) 3 h2 h3 h4 r0 r1 r2 r3 v3 v4 r4 r5 r6 r7 v5 r8 r9 v6 v7 r10 r11 v8 v9 r12 v10 v11 r13 v12 w13 r14 v14 v15 r15 r16 r17 r18 r19 r20 v16 r21 r22 r23 v17 h1 g0 f18 h2 g1 fn26 h3 g2 fn27 h4 g3 fn28)) [1, 0, 2, 3, 4] (by decide) rfl
              clear hP2 hD2
              have hgR := hgR.bin (k' := 0) (D := 11) pt0_ra25 (by decide) (by decide) (by decide) (by decide) (by decide)
              have hgF := hgR.1
              have hxl := hgF.1
              have hxs := pt0_ra25.step
              refine lv_goto (tgt := 0) hx hb dX12_goOnOr_42 (by decide) ?_
              exact ih_hL9 x21 fn26 fn27 fn28 H locs ls oa_x21 ob_x21 (by constructor <;> omega) (by exact hgR.mono (by decide)) (by first | assumption | (apply pg_row.ent <;> first | assumption | omega) | (apply pg_L.next <;> first | assumption | omega) | (apply pg_L.step <;> first | assumption | omega | (apply pg_tru.no <;> assumption) | (apply pg_tru.ok <;> assumption)) | exact pg_L.of (by omega) rfl) (by first | omega | (simp only [Int.toNat] at *; omega)) hP hD hS (lv_sub hl [0] rfl)
            · skip
              obtain ⟨x29, x30, x31, fn32, fn33, fn34, oa_x29, ob_x29, oa_x30, ob_x30, pt0_ra20, pt1_ra20, pt2_ra20, hP1, hK1, hD1⟩ := hB
              rw [ht] at hP1
              obtain ⟨hP2, hD2⟩ := va_join (wr := []) (w1 := (wd_d906eaf1 h0 v0 h1 v1 x29 x30 x31 h2 h3 h4 r0 r1 r2 r3 v3 v4 r4 r5 r6 r7 v5 r8 r9 v6 v7 r10 r11 v8 v9 r12 v10 v11 r13 v12 w13 r14 v14 v15 r15 r16 r17 r18 r19 r20 v16 r21 r22 r23 v17 h1 g0 f18 h2 g1 fn32 h3 g2 fn33 h4 g3 fn34)) hP hD [0, 1, 2, 3, 4] [] rfl rfl (by decide) (by decide) hk1 hFc hP1 hD1
              clear hP hD hPc hDc hKc hFc hP1 hK1 hD1 hk1 hz1
              generalize H1 = H at hP2 hS ⊢
              have hP : va_P (dC, dI) vwCl (wd_d906eaf1 h0 v0 h1 v1 x29 x30 x31 h2 h3 h4 r0 r1 r2 r3 v3 v4 r4 r5 r6 r7 v5 r8 r9 v6 v7 r10 r11 v8 v9 r12 v10 v11 r13 v12 w13 r14 v14 v15 r15 r16 r17 r18 r19 r20 v16 r21 r22 r23 v17 h1 g0 f18 h2 g1 fn32 h3 g2 fn33 h4 g3 fn34) H := hP2
              have hD : va_D A (wd_d906eaf1 h0 v0 h1 v1 x29 x30 x31 h2 h3 h4 r0 r1 r2 r3 v3 v4 r4 r5 r6 r7 v5 r8 r9 v6 v7 r10 r11 v8 v9 r12 v10 v11 r13 v12 w13 r14 v14 v15 r15 r16 r17 r18 r19 r20 v16 r21 r22 r23 v17 h1 g0 f18 h2 g1 fn32 h3 g2 fn33 h4 g3 fn34) := hD2
              clear hP2 hD2
              have hgF := hgF.app pt1_ra20
              have hxl := hgF.1
              refine lv_aload_n hx hb dX12_goOnOr_35 rfl (lv_at hl 0 rfl) ?_
              refine lv_bipush (v := 11) hx hb dX12_goOnOr_36 (by decide) ?_
              refine lv_iconst (v := 0) hx hb dX12_goOnOr_38 (by decide) ?_
              have hPc := hP.sub (ws' := (wd_c62683a8 h0 v0 h1 v1 x29 x30 x31 h2 h3 h4 r0 r1 r2 r3 v3 v4 r4 r5 r6 r7 v5 r8 r9 v6 v7 r10 r11 v8 v9 r12 v10 v11 r13 v12 w13 r14 v14 v15 r15 r16 r17 r18 r19 r20 v16 r21 r22 r23 v17 h2 g1 fn32 h3 g2 fn33 h4 g3 fn34)) [0, 2, 3, 4] rfl
              have hDc := hD.sub (ws' := (wd_c62683a8 h0 v0 h1 v1 x29 x30 x31 h2 h3 h4 r0 r1 r2 r3 v3 v4 r4 r5 r6 r7 v5 r8 r9 v6 v7 r10 r11 v8 v9 r12 v10 v11 r13 v12 w13 r14 v14 v15 r15 r16 r17 r18 r19 r20 v16 r21 r22 r23 v17 h2 g1 fn32 h3 g2 fn33 h4 g3 fn34)) [0, 2, 3, 4] (by decide) rfl
              have hKc := hK.sub (tys' := [(g1, .int), (g2, .int), (g3, .int)]) [1, 2, 3] rfl
              have hFc := va_free (wc := (wd_c62683a8 h0 v0 h1 v1 x29 x30 x31 h2 h3 h4 r0 r1 r2 r3 v3 v4 r4 r5 r6 r7 v5 r8 r9 v6 v7 r10 r11 v8 v9 r12 v10 v11 r13 v12 w13 r14 v14 v15 r15 r16 r17 r18 r19 r20 v16 r21 r22 r23 v17 h2 g1 fn32 h3 g2 fn33 h4 g3 fn34)) hD hS hA [0, 2, 3, 4] rfl
              refine va_callv (va_runV (As := [.int 11, .int 0]) (rest := []) ⟨hx, hb, hml, hown, hts⟩ (k_X12_put l dC dI h0 h2 h3 h4 v0 h1 v1 x29 x30 x31 r0 r1 r2 r3 v3 v4 r4 r5 r6 r7 v5 r8 r9 v6 v7 r10 r11 v8 v9 r12 v10 v11 r13 v12 w13 r14 v14 v15 r15 r16 r17 r18 r19 r20 v16 r21 r22 r23 v17 g1 fn32 g2 fn33 g3 fn34 11 0 ⟨i_v1a, i_v1b⟩ ⟨i_v3a, i_v3b⟩ ⟨i_v4a, i_v4b⟩ ⟨i_v5a, i_v5b⟩ ⟨i_v6a, i_v6b⟩ ⟨i_v7a, i_v7b⟩ ⟨i_v8a, i_v8b⟩ ⟨i_v12a, i_v12b⟩ ⟨i_v16a, i_v16b⟩ ⟨i_v17a, i_v17b⟩ (by constructor <;> omega) H.size) (cwV 2 hts g_X12_goOnOr_4_3 rfl rfl rfl (by decide +kernel) ⟨Nat.le_of_ble_eq_true rfl, Nat.le_of_ble_eq_true rfl⟩) (pv_PV12 hPc hKc hDc (q0 := 0) rfl) rfl rfl hl.1 rfl (lv_room (Nat.le_of_ble_eq_true rfl)) dX12_goOnOr_39 ⟨Nat.le_of_ble_eq_true rfl, Nat.le_of_ble_eq_true rfl⟩) hS (fun q _ h => hFc q h) hFc (fun u t H1 locs ht hvm hwra35 hB hz1 hk1 hS => ?_)
              have hkra35_0 : ((0 : Int32)).toInt = 0 := by decide
              have hkra35_1 : ((11 : Int32)).toInt = 11 := by decide
              obtain ⟨fn36, fn37, fn38, pt0_ra35, hP1, hK1, hD1⟩ := hB
              rw [ht] at hP1
              obtain ⟨hP2, hD2⟩ := va_join (wr := (wd_d0032b31 h1 g0 f18)) (w1 := (wd_c62683a8 h0 v0 h1 v1 x29 x30 x31 h2 h3 h4 r0 r1 r2 r3 v3 v4 r4 r5 r6 r7 v5 r8 r9 v6 v7 r10 r11 v8 v9 r12 v10 v11 r13 v12 w13 r14 v14 v15 r15 r16 r17 r18 r19 r20 v16 r21 r22 r23 v17 h2 g1 fn36 h3 g2 fn37 h4 g3 fn38)) hP hD [0, 2, 3, 4] [1] rfl rfl (by decide) (by decide) hk1 hFc hP1 hD1
              clear hP hD hPc hDc hKc hFc hP1 hK1 hD1 hk1 hz1
              generalize H1 = H at hP2 hS ⊢
              have hP := hP2.sub (ws' := (wd_d906eaf1 h0 v0 h1 v1 x29 x30 x31 h2 h3 h4 r0 r1 r2 r3 v3 v4 r4 r5 r6 r7 v5 r8 r9 v6 v7 r10 r11 v8 v9 r12 v10 v11 r13 v12 w13 r14 v14 v15 r15 r16 r17 r18 r19 r20 v16 r21 r22 r23 v17 h1 g0 f18 h2 g1 fn36 h3 g2 fn37 h4 g3 fn38)) [1, 0, 2, 3, 4] rfl
              have hD := hD2.sub (ws' := (wd_d906eaf1 h0 v0 h1 v1 x29 x30 x31 h2 h3 h4 r0 r1 r2 r3 v3 v4 r4 r5 r6 r7 v5 r8 r9 v6 v7 r10 r11 v8 v9 r12 v10 v11 r13 v12 w13 r14 v14 v15 r15 r16 r17 r18 r19 r20 v16 r21 r22 r23 v17 h1 g0 f18 h2 g1 fn36 h3 g2 fn37 h4 g3 fn38)) [1, 0, 2, 3, 4] (by decide) rfl
              clear hP2 hD2
              have hgF := hgF.put pt0_ra35
              have hxl := hgF.1
              have hxs := pt0_ra35.step
              refine lv_goto (tgt := 0) hx hb dX12_goOnOr_42 (by decide) ?_
              refine lv_aload_n hx hb dX12_goOnOr_0 rfl (lv_at hl 0 rfl) ?_
              refine va_get (D := (dC, dI)) (ci := 12) (v := .int x30) (C := RX12) (T := TX12) (N := 48) hx hb hts (fun _ h => List.mem_cons_of_mem _ (List.mem_append_right _ h)) hown hK hP 0 rfl rfl 4 (by decide) (hts (.fieldLink RX12 119 "LeftArgumentsModel" "wrong" "I") (List.mem_cons_of_mem _ (List.mem_append_left _ (List.mem_of_getElem? (i := 0) rfl)))) (fun _ h9 => h9) rfl dX12_goOnOr_1 ?_
              refine lv_iconst (v := (-1)) hx hb dX12_goOnOr_4 (by decide) ?_
              refine lv_icmp_ne (tgt := 45) hx hb dX12_goOnOr_5 (by decide) (fun _ => ?_) (fun c39 => by exfalso; have fc39 : x30.toInt = (-1) := congrArg Int32.toInt c39; omega)
              subst hQ
              have hP9 := hP.sub (ws' := (wd_d906eaf1 h0 v0 h1 v1 x29 x30 x31 h2 h3 h4 r0 r1 r2 r3 v3 v4 r4 r5 r6 r7 v5 r8 r9 v6 v7 r10 r11 v8 v9 r12 v10 v11 r13 v12 w13 r14 v14 v15 r15 r16 r17 r18 r19 r20 v16 r21 r22 r23 v17 h1 g0 f18 h2 g1 fn36 h3 g2 fn37 h4 g3 fn38)) [0, 1, 2, 3, 4] rfl
              have hD9 := hD.sub (ws' := (wd_d906eaf1 h0 v0 h1 v1 x29 x30 x31 h2 h3 h4 r0 r1 r2 r3 v3 v4 r4 r5 r6 r7 v5 r8 r9 v6 v7 r10 r11 v8 v9 r12 v10 v11 r13 v12 w13 r14 v14 v15 r15 r16 r17 r18 r19 r20 v16 r21 r22 r23 v17 h1 g0 f18 h2 g1 fn36 h3 g2 fn37 h4 g3 fn38)) [0, 1, 2, 3, 4] (by decide) rfl
              have hK9 := hK.sub (tys' := []) [] rfl
              exact W.vret hx hb hr (fun t ht hW => ⟨⟨(), rfl, trivial, Or.inr (⟨x29, x30, x31, fn36, fn37, fn38, oa_x29, ob_x29, oa_x30, ob_x30, by constructor <;> omega, by exact hgF, by first | assumption | (apply pg_lp.no <;> first | assumption | omega | (apply pg_tru.no <;> assumption) | (apply pg_tru.ok <;> assumption)) | (apply pg_L.no <;> first | assumption | omega | (apply pg_tru.no <;> assumption) | (apply pg_tru.ok <;> assumption)), by rw [ht]; exact hP9, va_K.moved hW.alike hK9, hD9⟩)⟩, hS.F ht⟩) hS.2.2 dX12_goOnOr_45
          · skip
            obtain ⟨x40, x41, x42, fn43, fn44, fn45, oa_x40, ob_x40, oa_x41, ob_x41, pt0_ra15, pt1_ra15, pt2_ra15, hP1, hK1, hD1⟩ := hB
            rw [ht] at hP1
            obtain ⟨hP2, hD2⟩ := va_join (wr := []) (w1 := (wd_d906eaf1 h0 v0 h1 v1 x40 x41 x42 h2 h3 h4 r0 r1 r2 r3 v3 v4 r4 r5 r6 r7 v5 r8 r9 v6 v7 r10 r11 v8 v9 r12 v10 v11 r13 v12 w13 r14 v14 v15 r15 r16 r17 r18 r19 r20 v16 r21 r22 r23 v17 h1 g0 f18 h2 g1 fn43 h3 g2 fn44 h4 g3 fn45)) hP hD [0, 1, 2, 3, 4] [] rfl rfl (by decide) (by decide) hk1 hFc hP1 hD1
            clear hP hD hPc hDc hKc hFc hP1 hK1 hD1 hk1 hz1
            generalize H1 = H at hP2 hS ⊢
            have hP : va_P (dC, dI) vwCl (wd_d906eaf1 h0 v0 h1 v1 x40 x41 x42 h2 h3 h4 r0 r1 r2 r3 v3 v4 r4 r5 r6 r7 v5 r8 r9 v6 v7 r10 r11 v8 v9 r12 v10 v11 r13 v12 w13 r14 v14 v15 r15 r16 r17 r18 r19 r20 v16 r21 r22 r23 v17 h1 g0 f18 h2 g1 fn43 h3 g2 fn44 h4 g3 fn45) H := hP2
            have hD : va_D A (wd_d906eaf1 h0 v0 h1 v1 x40 x41 x42 h2 h3 h4 r0 r1 r2 r3 v3 v4 r4 r5 r6 r7 v5 r8 r9 v6 v7 r10 r11 v8 v9 r12 v10 v11 r13 v12 w13 r14 v14 v15 r15 r16 r17 r18 r19 r20 v16 r21 r22 r23 v17 h1 g0 f18 h2 g1 fn43 h3 g2 fn44 h4 g3 fn45) := hD2
            clear hP2 hD2
            have hgF := hgF.app pt1_ra15
            have hxl := hgF.1
            refine lv_aload_n hx hb dX12_goOnOr_31 rfl (lv_at hl 0 rfl) ?_
            have hPc := hP.sub (ws' := (wd_171f232f h0 v0 h1 v1 x40 x41 x42 h2 h3 h4 r0 r1 r2 r3 v3 v4 r4 r5 r6 r7 v5 r8 r9 v6 v7 r10 r11 v8 v9 r12 v10 v11 r13 v12 w13 r14 v14 v15 r15 r16 r17 r18 r19 r20 v16 r21 r22 r23 v17)) [0] rfl
            have hDc := hD.sub (ws' := (wd_171f232f h0 v0 h1 v1 x40 x41 x42 h2 h3 h4 r0 r1 r2 r3 v3 v4 r4 r5 r6 r7 v5 r8 r9 v6 v7 r10 r11 v8 v9 r12 v10 v11 r13 v12 w13 r14 v14 v15 r15 r16 r17 r18 r19 r20 v16 r21 r22 r23 v17)) [0] (by decide) rfl
            have hKc := hK.sub (tys' := []) [] rfl
            have hFc := va_free (wc := (wd_171f232f h0 v0 h1 v1 x40 x41 x42 h2 h3 h4 r0 r1 r2 r3 v3 v4 r4 r5 r6 r7 v5 r8 r9 v6 v7 r10 r11 v8 v9 r12 v10 v11 r13 v12 w13 r14 v14 v15 r15 r16 r17 r18 r19 r20 v16 r21 r22 r23 v17)) hD hS hA [0] rfl
            refine va_callv (va_runV (As := []) (rest := []) ⟨hx, hb, hml, hown, hts⟩ (k_X12_goOnAnd_1 l dC dI h0 v0 h1 v1 x40 x41 x42 h2 h3 h4 r0 r1 r2 r3 v3 v4 r4 r5 r6 r7 v5 r8 r9 v6 v7 r10 r11 v8 v9 r12 v10 v11 r13 v12 w13 r14 v14 v15 r15 r16 r17 r18 r19 r20 v16 r21 r22 r23 v17 ⟨i_v1a, i_v1b⟩ ⟨oa_x41, by first | omega | decide⟩ ⟨i_v3a, i_v3b⟩ ⟨i_v4a, i_v4b⟩ ⟨i_v5a, i_v5b⟩ ⟨i_v6a, i_v6b⟩ ⟨i_v7a, i_v7b⟩ ⟨i_v8a, i_v8b⟩ ⟨i_v12a, i_v12b⟩ ⟨i_v16a, i_v16b⟩ ⟨i_v17a, i_v17b⟩ H.size) (cwV 0 hts g_X12_goOnOr_4_5 rfl rfl rfl (by decide +kernel) ⟨Nat.le_of_ble_eq_true rfl, Nat.le_of_ble_eq_true rfl⟩) (pv_PV12 hPc hKc hDc (q0 := 0) rfl) rfl rfl hl.1 rfl (lv_room (Nat.le_of_ble_eq_true rfl)) dX12_goOnOr_32 ⟨Nat.le_of_ble_eq_true rfl, Nat.le_of_ble_eq_true rfl⟩) hS (fun q _ h => hFc q h) hFc (fun u t H1 locs ht hvm hwra46 hB hz1 hk1 hS => ?_)
            obtain ⟨hP1, hK1, hD1⟩ := hB
            rw [ht] at hP1
            obtain ⟨hP2, hD2⟩ := va_join (wr := (wd_bfe486e6 h1 g0 f18 h2 g1 fn43 h3 g2 fn44 h4 g3 fn45)) (w1 := (wd_171f232f h0 v0 h1 v1 x40 x41 x42 h2 h3 h4 r0 r1 r2 r3 v3 v4 r4 r5 r6 r7 v5 r8 r9 v6 v7 r10 r11 v8 v9 r12 v10 v11 r13 v12 w13 r14 v14 v15 r15 r16 r17 r18 r19 r20 v16 r21 r22 r23 v17)) hP hD [0] [1, 2, 3, 4] rfl rfl (by decide) (by decide) hk1 hFc hP1 hD1
            clear hP hD hPc hDc hKc hFc hP1 hK1 hD1 hk1 hz1
            generalize H1 = H at hP2 hS ⊢
            have hP := hP2.sub (ws' := (wd_d906eaf1 h0 v0 h1 v1 x40 x41 x42 h2 h3 h4 r0 r1 r2 r3 v3 v4 r4 r5 r6 r7 v5 r8 r9 v6 v7 r10 r11 v8 v9 r12 v10 v11 r13 v12 w13 r14 v14 v15 r15 r16 r17 r18 r19 r20 v16 r21 r22 r23 v17 h1 g0 f18 h2 g1 fn43 h3 g2 fn44 h4 g3 fn45)) [4, 0, 1, 2, 3] rfl
            have hD := hD2.sub (ws' := (wd_d906eaf1 h0 v0 h1 v1 x40 x41 x42 h2 h3 h4 r0 r1 r2 r3 v3 v4 r4 r5 r6 r7 v5 r8 r9 v6 v7 r10 r11 v8 v9 r12 v10 v11 r13 v12 w13 r14 v14 v15 r15 r16 r17 r18 r19 r20 v16 r21 r22 r23 v17 h1 g0 f18 h2 g1 fn43 h3 g2 fn44 h4 g3 fn45)) [4, 0, 1, 2, 3] (by decide) rfl
            clear hP2 hD2
            refine lv_aload_n hx hb dX12_goOnOr_35 rfl (lv_at hl 0 rfl) ?_
            refine lv_bipush (v := 11) hx hb dX12_goOnOr_36 (by decide) ?_
            refine lv_iconst (v := 0) hx hb dX12_goOnOr_38 (by decide) ?_
            have hPc := hP.sub (ws' := (wd_c62683a8 h0 v0 h1 v1 x40 x41 x42 h2 h3 h4 r0 r1 r2 r3 v3 v4 r4 r5 r6 r7 v5 r8 r9 v6 v7 r10 r11 v8 v9 r12 v10 v11 r13 v12 w13 r14 v14 v15 r15 r16 r17 r18 r19 r20 v16 r21 r22 r23 v17 h2 g1 fn43 h3 g2 fn44 h4 g3 fn45)) [0, 2, 3, 4] rfl
            have hDc := hD.sub (ws' := (wd_c62683a8 h0 v0 h1 v1 x40 x41 x42 h2 h3 h4 r0 r1 r2 r3 v3 v4 r4 r5 r6 r7 v5 r8 r9 v6 v7 r10 r11 v8 v9 r12 v10 v11 r13 v12 w13 r14 v14 v15 r15 r16 r17 r18 r19 r20 v16 r21 r22 r23 v17 h2 g1 fn43 h3 g2 fn44 h4 g3 fn45)) [0, 2, 3, 4] (by decide) rfl
            have hKc := hK.sub (tys' := [(g1, .int), (g2, .int), (g3, .int)]) [1, 2, 3] rfl
            have hFc := va_free (wc := (wd_c62683a8 h0 v0 h1 v1 x40 x41 x42 h2 h3 h4 r0 r1 r2 r3 v3 v4 r4 r5 r6 r7 v5 r8 r9 v6 v7 r10 r11 v8 v9 r12 v10 v11 r13 v12 w13 r14 v14 v15 r15 r16 r17 r18 r19 r20 v16 r21 r22 r23 v17 h2 g1 fn43 h3 g2 fn44 h4 g3 fn45)) hD hS hA [0, 2, 3, 4] rfl
            refine va_callv (va_runV (As := [.int 11, .int 0]) (rest := []) ⟨hx, hb, hml, hown, hts⟩ (k_X12_put l dC dI h0 h2 h3 h4 v0 h1 v1 x40 x41 x42 r0 r1 r2 r3 v3 v4 r4 r5 r6 r7 v5 r8 r9 v6 v7 r10 r11 v8 v9 r12 v10 v11 r13 v12 w13 r14 v14 v15 r15 r16 r17 r18 r19 r20 v16 r21 r22 r23 v17 g1 fn43 g2 fn44 g3 fn45 11 0 ⟨i_v1a, i_v1b⟩ ⟨i_v3a, i_v3b⟩ ⟨i_v4a, i_v4b⟩ ⟨i_v5a, i_v5b⟩ ⟨i_v6a, i_v6b⟩ ⟨i_v7a, i_v7b⟩ ⟨i_v8a, i_v8b⟩ ⟨i_v12a, i_v12b⟩ ⟨i_v16a, i_v16b⟩ ⟨i_v17a, i_v17b⟩ (by constructor <;> omega) H.size) (cwV 2 hts g_X12_goOnOr_4_3 rfl rfl rfl (by decide +kernel) ⟨Nat.le_of_ble_eq_true rfl, Nat.le_of_ble_eq_true rfl⟩) (pv_PV12 hPc hKc hDc (q0 := 0) rfl) rfl rfl hl.1 rfl (lv_room (Nat.le_of_ble_eq_true rfl)) dX12_goOnOr_39 ⟨Nat.le_of_ble_eq_true rfl, Nat.le_of_ble_eq_true rfl⟩) hS (fun q _ h => hFc q h) hFc (fun u t H1 locs ht hvm hwra47 hB hz1 hk1 hS => ?_)
            have hkra47_0 : ((0 : Int32)).toInt = 0 := by decide
            have hkra47_1 : ((11 : Int32)).toInt = 11 := by decide
            obtain ⟨fn48, fn49, fn50, pt0_ra47, hP1, hK1, hD1⟩ := hB
            rw [ht] at hP1
            obtain ⟨hP2, hD2⟩ := va_join (wr := (wd_d0032b31 h1 g0 f18)) (w1 := (wd_c62683a8 h0 v0 h1 v1 x40 x41 x42 h2 h3 h4 r0 r1 r2 r3 v3 v4 r4 r5 r6 r7 v5 r8 r9 v6 v7 r10 r11 v8 v9 r12 v10 v11 r13 v12 w13 r14 v14 v15 r15 r16 r17 r18 r19 r20 v16 r21 r22 r23 v17 h2 g1 fn48 h3 g2 fn49 h4 g3 fn50)) hP hD [0, 2, 3, 4] [1] rfl rfl (by decide) (by decide) hk1 hFc hP1 hD1
            clear hP hD hPc hDc hKc hFc hP1 hK1 hD1 hk1 hz1
            generalize H1 = H at hP2 hS ⊢
            have hP := hP2.sub (ws' := (wd_d906eaf1 h0 v0 h1 v1 x40 x41 x42 h2 h3 h4 r0 r1 r2 r3 v3 v4 r4 r5 r6 r7 v5 r8 r9 v6 v7 r10 r11 v8 v9 r12 v10 v11 r13 v12 w13 r14 v14 v15 r15 r16 r17 r18 r19 r20 v16 r21 r22 r23 v17 h1 g0 f18 h2 g1 fn48 h3 g2 fn49 h4 g3 fn50)) [1, 0, 2, 3, 4] rfl
            have hD := hD2.sub (ws' := (wd_d906eaf1 h0 v0 h1 v1 x40 x41 x42 h2 h3 h4 r0 r1 r2 r3 v3 v4 r4 r5 r6 r7 v5 r8 r9 v6 v7 r10 r11 v8 v9 r12 v10 v11 r13 v12 w13 r14 v14 v15 r15 r16 r17 r18 r19 r20 v16 r21 r22 r23 v17 h1 g0 f18 h2 g1 fn48 h3 g2 fn49 h4 g3 fn50)) [1, 0, 2, 3, 4] (by decide) rfl
            clear hP2 hD2
            have hgF := hgF.put pt0_ra47
            have hxl := hgF.1
            have hxs := pt0_ra47.step
            refine lv_goto (tgt := 0) hx hb dX12_goOnOr_42 (by decide) ?_
            refine lv_aload_n hx hb dX12_goOnOr_0 rfl (lv_at hl 0 rfl) ?_
            refine va_get (D := (dC, dI)) (ci := 12) (v := .int x41) (C := RX12) (T := TX12) (N := 48) hx hb hts (fun _ h => List.mem_cons_of_mem _ (List.mem_append_right _ h)) hown hK hP 0 rfl rfl 4 (by decide) (hts (.fieldLink RX12 119 "LeftArgumentsModel" "wrong" "I") (List.mem_cons_of_mem _ (List.mem_append_left _ (List.mem_of_getElem? (i := 0) rfl)))) (fun _ h9 => h9) rfl dX12_goOnOr_1 ?_
            refine lv_iconst (v := (-1)) hx hb dX12_goOnOr_4 (by decide) ?_
            refine lv_icmp_ne (tgt := 45) hx hb dX12_goOnOr_5 (by decide) (fun _ => ?_) (fun c51 => by exfalso; have fc51 : x41.toInt = (-1) := congrArg Int32.toInt c51; omega)
            subst hQ
            have hP9 := hP.sub (ws' := (wd_d906eaf1 h0 v0 h1 v1 x40 x41 x42 h2 h3 h4 r0 r1 r2 r3 v3 v4 r4 r5 r6 r7 v5 r8 r9 v6 v7 r10 r11 v8 v9 r12 v10 v11 r13 v12 w13 r14 v14 v15 r15 r16 r17 r18 r19 r20 v16 r21 r22 r23 v17 h1 g0 f18 h2 g1 fn48 h3 g2 fn49 h4 g3 fn50)) [0, 1, 2, 3, 4] rfl
            have hD9 := hD.sub (ws' := (wd_d906eaf1 h0 v0 h1 v1 x40 x41 x42 h2 h3 h4 r0 r1 r2 r3 v3 v4 r4 r5 r6 r7 v5 r8 r9 v6 v7 r10 r11 v8 v9 r12 v10 v11 r13 v12 w13 r14 v14 v15 r15 r16 r17 r18 r19 r20 v16 r21 r22 r23 v17 h1 g0 f18 h2 g1 fn48 h3 g2 fn49 h4 g3 fn50)) [0, 1, 2, 3, 4] (by decide) rfl
            have hK9 := hK.sub (tys' := []) [] rfl
            exact W.vret hx hb hr (fun t ht hW => ⟨⟨(), rfl, trivial, Or.inr (⟨x40, x41, x42, fn48, fn49, fn50, oa_x40, ob_x40, oa_x41, ob_x41, by constructor <;> omega, by exact hgF, by first | assumption | (apply pg_lp.no <;> first | assumption | omega | (apply pg_tru.no <;> assumption) | (apply pg_tru.ok <;> assumption)) | (apply pg_L.no <;> first | assumption | omega | (apply pg_tru.no <;> assumption) | (apply pg_tru.ok <;> assumption)), by rw [ht]; exact hP9, va_K.moved hW.alike hK9, hD9⟩)⟩, hS.F ht⟩) hS.2.2 dX12_goOnOr_45
  exact hL9 _ v2 f19 f20 f21 H locs ls i_v2a i_v2b (by constructor <;> omega) (by exact hgR.mono (by decide)) (by first | assumption | (apply pg_row.ent <;> first | assumption | omega) | (apply pg_L.next <;> first | assumption | omega) | (apply pg_L.step <;> first | assumption | omega | (apply pg_tru.no <;> assumption) | (apply pg_tru.ok <;> assumption)) | exact pg_L.of (by omega) rfl) (Nat.lt_succ_self _) hP hD hS (lv_sub hl [0] rfl)
def q_X12_condition_3 : List Cond := .code yX12_condition cX12_condition 1 none :: (([.code yX12_unit cX12_unit 2 none, .code yX12_look cX12_look 1 (some .int), .code yX12_here cX12_here 1 (some .int), .fieldLink RX12 112 "LeftArgumentsModel" "at" "I", .fieldLink RX12 109 "LeftArgumentsModel" "size" "I", .fieldLink RX12 9 "LeftArgumentsModel" "tape" "[I", .initialized RX12, .instanceMethod yX12_here, .selects RX12 yX12_here yX12_here, .methodLink RX12 115 yX12_here, .instanceMethod yX12_look, .selects RX12 yX12_look yX12_look, .methodLink RX12 131 yX12_look, .code yX12_sum cX12_sum 2 none, .code yX12_term cX12_term 2 none, .code yX12_atom cX12_atom 2 none, .code yX12_isDigit cX12_isDigit 1 (some .boolean), .static yX12_isDigit, .methodLink RX12 134 yX12_isDigit, .code yX12_letterOf cX12_letterOf 1 (some .int), .static yX12_letterOf, .methodLink RX12 145 yX12_letterOf, .code yX12_bad cX12_bad 1 none, .fieldLink RX12 119 "LeftArgumentsModel" "wrong" "I", .instanceMethod yX12_bad, .selects RX12 yX12_bad yX12_bad, .methodLink RX12 128 yX12_bad, .code yX12_opens cX12_opens 1 none, .fieldLink RX12 125 "LeftArgumentsModel" "deep" "I", .instanceMethod yX12_opens, .selects RX12 yX12_opens yX12_opens, .methodLink RX12 149 yX12_opens, .code yX12_put cX12_put 3 none, .fieldLink RX12 13 "LeftArgumentsModel" "code" "[I", .fieldLink RX12 122 "LeftArgumentsModel" "text" "I", .fieldLink RX12 19 "LeftArgumentsModel" "codes" "[I", .fieldLink RX12 16 "LeftArgumentsModel" "value" "[I", .instanceMethod yX12_put, .selects RX12 yX12_put yX12_put, .methodLink RX12 141 yX12_put, .code yX12_plainNumber cX12_plainNumber 3 (some .int), .instanceMethod yX12_plainNumber, .selects RX12 yX12_plainNumber yX12_plainNumber, .methodLink RX12 138 yX12_plainNumber, .instanceMethod yX12_atom, .selects RX12 yX12_atom yX12_atom, .methodLink RX12 159 yX12_atom, .instanceMethod yX12_term, .selects RX12 yX12_term yX12_term, .methodLink RX12 162 yX12_term, .instanceMethod yX12_sum, .selects RX12 yX12_sum yX12_sum, .methodLink RX12 152 yX12_sum, .code yX12_closes cX12_closes 2 none, .instanceMethod yX12_closes, .selects RX12 yX12_closes yX12_closes, .methodLink RX12 155 yX12_closes, .code yX12_compare cX12_compare 2 none, .code yX12_isSign cX12_isSign 1 (some .boolean), .static yX12_isSign, .methodLink RX12 165 yX12_isSign, .instanceMethod yX12_compare, .selects RX12 yX12_compare yX12_compare, .methodLink RX12 174 yX12_compare, .code yX12_condition cX12_condition 1 none, .instanceMethod yX12_unit, .selects RX12 yX12_unit yX12_unit, .methodLink RX12 168 yX12_unit, .code yX12_goOnAnd cX12_goOnAnd 1 none, .instanceMethod yX12_goOnAnd, .selects RX12 yX12_goOnAnd yX12_goOnAnd, .methodLink RX12 177 yX12_goOnAnd, .code yX12_goOnOr cX12_goOnOr 1 none, .instanceMethod yX12_goOnOr, .selects RX12 yX12_goOnOr yX12_goOnOr, .methodLink RX12 180 yX12_goOnOr, .instanceMethod yX12_condition, .selects RX12 yX12_condition yX12_condition, .methodLink RX12 171 yX12_condition] : List Cond) ++ wsX120)
set_option maxRecDepth 20000 in
theorem g_X12_condition_3_0 : GoodIn q_X12_condition_3 (wsV RX12 168 RX12 yX12_unit q_X12_unit_3) := goodIn_app (goodIn_r _ [68, 66, 67, 7] rfl (by decide +kernel)) (goodIn_ca (goodIn_r (.code yX12_unit cX12_unit 2 none :: [.code yX12_look cX12_look 1 (some .int), .code yX12_here cX12_here 1 (some .int), .fieldLink RX12 112 "LeftArgumentsModel" "at" "I", .fieldLink RX12 109 "LeftArgumentsModel" "size" "I", .fieldLink RX12 9 "LeftArgumentsModel" "tape" "[I", .initialized RX12, .instanceMethod yX12_here, .selects RX12 yX12_here yX12_here, .methodLink RX12 115 yX12_here, .instanceMethod yX12_look, .selects RX12 yX12_look yX12_look, .methodLink RX12 131 yX12_look, .code yX12_sum cX12_sum 2 none, .code yX12_term cX12_term 2 none, .code yX12_atom cX12_atom 2 none, .code yX12_isDigit cX12_isDigit 1 (some .boolean), .static yX12_isDigit, .methodLink RX12 134 yX12_isDigit, .code yX12_letterOf cX12_letterOf 1 (some .int), .static yX12_letterOf, .methodLink RX12 145 yX12_letterOf, .code yX12_bad cX12_bad 1 none, .fieldLink RX12 119 "LeftArgumentsModel" "wrong" "I", .instanceMethod yX12_bad, .selects RX12 yX12_bad yX12_bad, .methodLink RX12 128 yX12_bad, .code yX12_opens cX12_opens 1 none, .fieldLink RX12 125 "LeftArgumentsModel" "deep" "I", .instanceMethod yX12_opens, .selects RX12 yX12_opens yX12_opens, .methodLink RX12 149 yX12_opens, .code yX12_put cX12_put 3 none, .fieldLink RX12 13 "LeftArgumentsModel" "code" "[I", .fieldLink RX12 122 "LeftArgumentsModel" "text" "I", .fieldLink RX12 19 "LeftArgumentsModel" "codes" "[I", .fieldLink RX12 16 "LeftArgumentsModel" "value" "[I", .instanceMethod yX12_put, .selects RX12 yX12_put yX12_put, .methodLink RX12 141 yX12_put, .code yX12_plainNumber cX12_plainNumber 3 (some .int), .instanceMethod yX12_plainNumber, .selects RX12 yX12_plainNumber yX12_plainNumber, .methodLink RX12 138 yX12_plainNumber, .instanceMethod yX12_atom, .selects RX12 yX12_atom yX12_atom, .methodLink RX12 159 yX12_atom, .instanceMethod yX12_term, .selects RX12 yX12_term yX12_term, .methodLink RX12 162 yX12_term, .instanceMethod yX12_sum, .selects RX12 yX12_sum yX12_sum, .methodLink RX12 152 yX12_sum, .code yX12_closes cX12_closes 2 none, .instanceMethod yX12_closes, .selects RX12 yX12_closes yX12_closes, .methodLink RX12 155 yX12_closes, .code yX12_compare cX12_compare 2 none, .code yX12_isSign cX12_isSign 1 (some .boolean), .static yX12_isSign, .methodLink RX12 165 yX12_isSign, .instanceMethod yX12_compare, .selects RX12 yX12_compare yX12_compare, .methodLink RX12 174 yX12_compare, .code yX12_condition cX12_condition 1 none, .code yX12_unit cX12_unit 2 none, .instanceMethod yX12_unit, .selects RX12 yX12_unit yX12_unit, .methodLink RX12 168 yX12_unit, .code yX12_goOnAnd cX12_goOnAnd 1 none, .instanceMethod yX12_goOnAnd, .selects RX12 yX12_goOnAnd yX12_goOnAnd, .methodLink RX12 177 yX12_goOnAnd, .code yX12_goOnOr cX12_goOnOr 1 none, .instanceMethod yX12_goOnOr, .selects RX12 yX12_goOnOr yX12_goOnOr, .methodLink RX12 180 yX12_goOnOr, .instanceMethod yX12_condition, .selects RX12 yX12_condition yX12_condition, .methodLink RX12 171 yX12_condition]) [1, 2, 3, 4, 5, 6, 7, 8, 9, 10, 11, 12, 13, 14, 15, 16, 17, 18, 19, 20, 21, 22, 23, 24, 25, 26, 27, 28, 29, 30, 31, 32, 33, 34, 35, 36, 37, 38, 39, 40, 41, 42, 43, 44, 45, 46, 47, 48, 49, 50, 51, 52, 53, 54, 55, 56, 57, 58, 59, 60, 61, 62, 63, 64, 65, 1, 66, 67, 68, 69, 70, 71, 72, 73, 74, 75, 76, 77, 78, 79] rfl (by decide +kernel)) (goodIn_sub (fun _ h => List.mem_cons_of_mem _ (List.mem_append_right _ h)) gwX12))
set_option maxRecDepth 20000 in
theorem g_X12_condition_3_1 : GoodIn q_X12_condition_3 (wsV RX12 177 RX12 yX12_goOnAnd q_X12_goOnAnd_4) := goodIn_app (goodIn_r _ [72, 70, 71, 7] rfl (by decide +kernel)) (goodIn_ca (goodIn_r (.code yX12_goOnAnd cX12_goOnAnd 1 none :: [.fieldLink RX12 119 "LeftArgumentsModel" "wrong" "I", .code yX12_look cX12_look 1 (some .int), .code yX12_here cX12_here 1 (some .int), .fieldLink RX12 112 "LeftArgumentsModel" "at" "I", .fieldLink RX12 109 "LeftArgumentsModel" "size" "I", .fieldLink RX12 9 "LeftArgumentsModel" "tape" "[I", .initialized RX12, .instanceMethod yX12_here, .selects RX12 yX12_here yX12_here, .methodLink RX12 115 yX12_here, .instanceMethod yX12_look, .selects RX12 yX12_look yX12_look, .methodLink RX12 131 yX12_look, .code yX12_unit cX12_unit 2 none, .code yX12_sum cX12_sum 2 none, .code yX12_term cX12_term 2 none, .code yX12_atom cX12_atom 2 none, .code yX12_isDigit cX12_isDigit 1 (some .boolean), .static yX12_isDigit, .methodLink RX12 134 yX12_isDigit, .code yX12_letterOf cX12_letterOf 1 (some .int), .static yX12_letterOf, .methodLink RX12 145 yX12_letterOf, .code yX12_bad cX12_bad 1 none, .instanceMethod yX12_bad, .selects RX12 yX12_bad yX12_bad, .methodLink RX12 128 yX12_bad, .code yX12_opens cX12_opens 1 none, .fieldLink RX12 125 "LeftArgumentsModel" "deep" "I", .instanceMethod yX12_opens, .selects RX12 yX12_opens yX12_opens, .methodLink RX12 149 yX12_opens, .code yX12_put cX12_put 3 none, .fieldLink RX12 13 "LeftArgumentsModel" "code" "[I", .fieldLink RX12 122 "LeftArgumentsModel" "text" "I", .fieldLink RX12 19 "LeftArgumentsModel" "codes" "[I", .fieldLink RX12 16 "LeftArgumentsModel" "value" "[I", .instanceMethod yX12_put, .selects RX12 yX12_put yX12_put, .methodLink RX12 141 yX12_put, .code yX12_plainNumber cX12_plainNumber 3 (some .int), .instanceMethod yX12_plainNumber, .selects RX12 yX12_plainNumber yX12_plainNumber, .methodLink RX12 138 yX12_plainNumber, .instanceMethod yX12_atom, .selects RX12 yX12_atom yX12_atom, .methodLink RX12 159 yX12_atom, .instanceMethod yX12_term, .selects RX12 yX12_term yX12_term, .methodLink RX12 162 yX12_term, .instanceMethod yX12_sum, .selects RX12 yX12_sum yX12_sum, .methodLink RX12 152 yX12_sum, .code yX12_closes cX12_closes 2 none, .instanceMethod yX12_closes, .selects RX12 yX12_closes yX12_closes, .methodLink RX12 155 yX12_closes, .code yX12_compare cX12_compare 2 none, .code yX12_isSign cX12_isSign 1 (some .boolean), .static yX12_isSign, .methodLink RX12 165 yX12_isSign, .instanceMethod yX12_compare, .selects RX12 yX12_compare yX12_compare, .methodLink RX12 174 yX12_compare, .code yX12_condition cX12_condition 1 none, .instanceMethod yX12_unit, .selects RX12 yX12_unit yX12_unit, .methodLink RX12 168 yX12_unit, .code yX12_goOnAnd cX12_goOnAnd 1 none, .instanceMethod yX12_goOnAnd, .selects RX12 yX12_goOnAnd yX12_goOnAnd, .methodLink RX12 177 yX12_goOnAnd, .code yX12_goOnOr cX12_goOnOr 1 none, .instanceMethod yX12_goOnOr, .selects RX12 yX12_goOnOr yX12_goOnOr, .methodLink RX12 180 yX12_goOnOr, .instanceMethod yX12_condition, .selects RX12 yX12_condition yX12_condition, .methodLink RX12 171 yX12_condition]) [69, 24, 2, 3, 4, 5, 6, 7, 8, 9, 10, 11, 12, 13, 1, 14, 15, 16, 17, 18, 19, 20, 21, 22, 23, 25, 26, 27, 28, 29, 30, 31, 32, 33, 34, 35, 36, 37, 38, 39, 40, 41, 42, 43, 44, 45, 46, 47, 48, 49, 50, 51, 52, 53, 54, 55, 56, 57, 58, 59, 60, 61, 62, 63, 64, 65, 66, 67, 68, 69, 70, 71, 72, 73, 74, 75, 76, 77, 78, 79] rfl (by decide +kernel)) (goodIn_sub (fun _ h => List.mem_cons_of_mem _ (List.mem_append_right _ h)) gwX12))
set_option maxRecDepth 20000 in
theorem g_X12_condition_3_2 : GoodIn q_X12_condition_3 (wsV RX12 180 RX12 yX12_goOnOr q_X12_goOnOr_4) := goodIn_app (goodIn_r _ [76, 74, 75, 7] rfl (by decide +kernel)) (goodIn_ca (goodIn_r (.code yX12_goOnOr cX12_goOnOr 1 none :: [.fieldLink RX12 119 "LeftArgumentsModel" "wrong" "I", .code yX12_look cX12_look 1 (some .int), .code yX12_here cX12_here 1 (some .int), .fieldLink RX12 112 "LeftArgumentsModel" "at" "I", .fieldLink RX12 109 "LeftArgumentsModel" "size" "I", .fieldLink RX12 9 "LeftArgumentsModel" "tape" "[I", .initialized RX12, .instanceMethod yX12_here, .selects RX12 yX12_here yX12_here, .methodLink RX12 115 yX12_here, .instanceMethod yX12_look, .selects RX12 yX12_look yX12_look, .methodLink RX12 131 yX12_look, .code yX12_unit cX12_unit 2 none, .code yX12_sum cX12_sum 2 none, .code yX12_term cX12_term 2 none, .code yX12_atom cX12_atom 2 none, .code yX12_isDigit cX12_isDigit 1 (some .boolean), .static yX12_isDigit, .methodLink RX12 134 yX12_isDigit, .code yX12_letterOf cX12_letterOf 1 (some .int), .static yX12_letterOf, .methodLink RX12 145 yX12_letterOf, .code yX12_bad cX12_bad 1 none, .instanceMethod yX12_bad, .selects RX12 yX12_bad yX12_bad, .methodLink RX12 128 yX12_bad, .code yX12_opens cX12_opens 1 none, .fieldLink RX12 125 "LeftArgumentsModel" "deep" "I", .instanceMethod yX12_opens, .selects RX12 yX12_opens yX12_opens, .methodLink RX12 149 yX12_opens, .code yX12_put cX12_put 3 none, .fieldLink RX12 13 "LeftArgumentsModel" "code" "[I", .fieldLink RX12 122 "LeftArgumentsModel" "text" "I", .fieldLink RX12 19 "LeftArgumentsModel" "codes" "[I", .fieldLink RX12 16 "LeftArgumentsModel" "value" "[I", .instanceMethod yX12_put, .selects RX12 yX12_put yX12_put, .methodLink RX12 141 yX12_put, .code yX12_plainNumber cX12_plainNumber 3 (some .int), .instanceMethod yX12_plainNumber, .selects RX12 yX12_plainNumber yX12_plainNumber, .methodLink RX12 138 yX12_plainNumber, .instanceMethod yX12_atom, .selects RX12 yX12_atom yX12_atom, .methodLink RX12 159 yX12_atom, .instanceMethod yX12_term, .selects RX12 yX12_term yX12_term, .methodLink RX12 162 yX12_term, .instanceMethod yX12_sum, .selects RX12 yX12_sum yX12_sum, .methodLink RX12 152 yX12_sum, .code yX12_closes cX12_closes 2 none, .instanceMethod yX12_closes, .selects RX12 yX12_closes yX12_closes, .methodLink RX12 155 yX12_closes, .code yX12_compare cX12_compare 2 none, .code yX12_isSign cX12_isSign 1 (some .boolean), .static yX12_isSign, .methodLink RX12 165 yX12_isSign, .instanceMethod yX12_compare, .selects RX12 yX12_compare yX12_compare, .methodLink RX12 174 yX12_compare, .code yX12_condition cX12_condition 1 none, .instanceMethod yX12_unit, .selects RX12 yX12_unit yX12_unit, .methodLink RX12 168 yX12_unit, .code yX12_goOnAnd cX12_goOnAnd 1 none, .instanceMethod yX12_goOnAnd, .selects RX12 yX12_goOnAnd yX12_goOnAnd, .methodLink RX12 177 yX12_goOnAnd, .code yX12_goOnOr cX12_goOnOr 1 none, .instanceMethod yX12_goOnOr, .selects RX12 yX12_goOnOr yX12_goOnOr, .methodLink RX12 180 yX12_goOnOr, .instanceMethod yX12_condition, .selects RX12 yX12_condition yX12_condition, .methodLink RX12 171 yX12_condition]) [73, 24, 2, 3, 4, 5, 6, 7, 8, 9, 10, 11, 12, 13, 1, 14, 15, 16, 17, 18, 19, 20, 21, 22, 23, 25, 26, 27, 28, 29, 30, 31, 32, 33, 34, 35, 36, 37, 38, 39, 40, 41, 42, 43, 44, 45, 46, 47, 48, 49, 50, 51, 52, 53, 54, 55, 56, 57, 58, 59, 60, 61, 62, 63, 64, 65, 66, 67, 68, 69, 70, 71, 72, 73, 74, 75, 76, 77, 78, 79] rfl (by decide +kernel)) (goodIn_sub (fun _ h => List.mem_cons_of_mem _ (List.mem_append_right _ h)) gwX12))
set_option maxRecDepth 20000 in
theorem g_X12_condition_3_3 : GoodIn q_X12_condition_3 (wsV RX12 180 RX12 yX12_goOnOr q_X12_goOnOr_1) := goodIn_app (goodIn_r _ [76, 74, 75, 7] rfl (by decide +kernel)) (goodIn_ca (goodIn_r (.code yX12_goOnOr cX12_goOnOr 1 none :: [.fieldLink RX12 119 "LeftArgumentsModel" "wrong" "I"]) [73, 24] rfl (by decide +kernel)) (goodIn_sub (fun _ h => List.mem_cons_of_mem _ (List.mem_append_right _ h)) gwX12))
set_option maxRecDepth 20000 in
theorem g_X12_condition_3_4 : GoodIn q_X12_condition_3 (wsV RX12 177 RX12 yX12_goOnAnd q_X12_goOnAnd_1) := goodIn_app (goodIn_r _ [72, 70, 71, 7] rfl (by decide +kernel)) (goodIn_ca (goodIn_r (.code yX12_goOnAnd cX12_goOnAnd 1 none :: [.fieldLink RX12 119 "LeftArgumentsModel" "wrong" "I"]) [69, 24] rfl (by decide +kernel)) (goodIn_sub (fun _ h => List.mem_cons_of_mem _ (List.mem_append_right _ h)) gwX12))
set_option maxHeartbeats 4000000 in
set_option maxRecDepth 100000 in
theorem k_X12_condition_3 (l : Launch) (dC : Nat → ClassId) (dI : Nat → Nat → Nat) (h0 : Nat) (h1 : Nat) (h2 : Nat) (h3 : Nat) (h4 : Nat) (v0 : Int32) (v1 : Int32) (v2 : Int32) (r0 : Nat) (r1 : Nat) (r2 : Nat) (r3 : Nat) (v3 : Int32) (v4 : Int32) (r4 : Nat) (r5 : Nat) (r6 : Nat) (r7 : Nat) (v5 : Int32) (r8 : Nat) (r9 : Nat) (v6 : Int32) (v7 : Int32) (r10 : Nat) (r11 : Nat) (v8 : Int32) (v9 : Int32) (r12 : Nat) (v10 : Int32) (v11 : Int32) (r13 : Nat) (v12 : Int32) (w13 : Int64) (r14 : Nat) (v14 : Int32) (v15 : Int32) (r15 : Nat) (r16 : Nat) (r17 : Nat) (r18 : Nat) (r19 : Nat) (r20 : Nat) (v16 : Int32) (r21 : Nat) (r22 : Nat) (r23 : Nat) (v17 : Int32) (g0 : ClassId) (f18 : Nat → Int32) (g1 : ClassId) (f19 : Nat → Int32) (g2 : ClassId) (f20 : Nat → Int32) (g3 : ClassId) (f21 : Nat → Int32) (i_v1 : 0 ≤ v1.toInt ∧ v1.toInt ≤ 240) (i_v2 : 0 ≤ v2.toInt ∧ v2.toInt ≤ 240) (i_v3 : 0 ≤ v3.toInt ∧ v3.toInt ≤ 4) (i_v4 : 0 ≤ v4.toInt ∧ v4.toInt ≤ 4) (i_v5 : 0 ≤ v5.toInt ∧ v5.toInt ≤ 8) (i_v6 : 0 ≤ v6.toInt ∧ v6.toInt ≤ 8) (i_v7 : 0 ≤ v7.toInt ∧ v7.toInt ≤ 1) (i_v8 : -1 ≤ v8.toInt ∧ v8.toInt ≤ 3) (i_v12 : 0 ≤ v12.toInt ∧ v12.toInt ≤ 40) (i_v16 : 0 ≤ v16.toInt ∧ v16.toInt ≤ 10) (i_v17 : 0 ≤ v17.toInt ∧ v17.toInt ≤ 1) (ia_f18 : (∀ j, 0 ≤ (f18 j).toInt ∧ (f18 j).toInt ≤ 255)) (pp0 : 0 ≤ pm_x f21 v4 ∧ pm_x f21 v4 ≤ v2.toInt) (sz : Nat) : Met l yX12_condition q_X12_condition_3 ({ frames := 21, cells := 0, slots := 0, locals := 430 }) (va_Pc [.ref h0] (fun U => U.heap.size = sz ∧ va_P (dC, dI) vwCl (wd_d906eaf1 h0 v0 h1 v1 v2 (-1) 3 h2 h3 h4 r0 r1 r2 r3 v3 v4 r4 r5 r6 r7 v5 r8 r9 v6 v7 r10 r11 v8 v9 r12 v10 v11 r13 v12 w13 r14 v14 v15 r15 r16 r17 r18 r19 r20 v16 r21 r22 r23 v17 h1 g0 f18 h2 g1 f19 h3 g2 f20 h4 g3 f21) U.heap ∧ va_K (dC, dI) vwCl [(g0, .int), (g1, .int), (g2, .int), (g3, .int)] U ∧ va_D (fun _ => True) (wd_d906eaf1 h0 v0 h1 v1 v2 (-1) 3 h2 h3 h4 r0 r1 r2 r3 v3 v4 r4 r5 r6 r7 v5 r8 r9 v6 v7 r10 r11 v8 v9 r12 v10 v11 r13 v12 w13 r14 v14 v15 r15 r16 r17 r18 r19 r20 v16 r21 r22 r23 v17 h1 g0 f18 h2 g1 f19 h3 g2 f20 h4 g3 f21))) (va_Qv (fun (_ : Unit) => True) (fun (_ : Unit) (t : State) => (∃ (o_h0_3 : Int32) (o_h2 : Nat → Int32) (o_h3 : Nat → Int32) (o_h4 : Nat → Int32), 0 ≤ o_h0_3.toInt ∧ o_h0_3.toInt ≤ 240 ∧ (pm_x o_h4 v4 - pm_x f21 v4 ≤ o_h0_3.toInt - v2.toInt ∧ v2.toInt ≤ o_h0_3.toInt) ∧ (pm_R v4 0 1 12 f19 f20 f21 o_h2 o_h3 o_h4) ∧ (pg_con f18 v1.toInt (pg_unit f18 v1.toInt 3) v2.toInt = (true, o_h0_3.toInt)) ∧ va_P (dC, dI) vwCl (wd_d906eaf1 h0 v0 h1 v1 o_h0_3 (-1) 3 h2 h3 h4 r0 r1 r2 r3 v3 v4 r4 r5 r6 r7 v5 r8 r9 v6 v7 r10 r11 v8 v9 r12 v10 v11 r13 v12 w13 r14 v14 v15 r15 r16 r17 r18 r19 r20 v16 r21 r22 r23 v17 h1 g0 f18 h2 g1 o_h2 h3 g2 o_h3 h4 g3 o_h4) t.heap ∧ va_K (dC, dI) vwCl [] t ∧ va_D (va_A (wd_d906eaf1 h0 v0 h1 v1 v2 (-1) 3 h2 h3 h4 r0 r1 r2 r3 v3 v4 r4 r5 r6 r7 v5 r8 r9 v6 v7 r10 r11 v8 v9 r12 v10 v11 r13 v12 w13 r14 v14 v15 r15 r16 r17 r18 r19 r20 v16 r21 r22 r23 v17 h1 g0 f18 h2 g1 f19 h3 g2 f20 h4 g3 f21) sz) (wd_d906eaf1 h0 v0 h1 v1 o_h0_3 (-1) 3 h2 h3 h4 r0 r1 r2 r3 v3 v4 r4 r5 r6 r7 v5 r8 r9 v6 v7 r10 r11 v8 v9 r12 v10 v11 r13 v12 w13 r14 v14 v15 r15 r16 r17 r18 r19 r20 v16 r21 r22 r23 v17 h1 g0 f18 h2 g1 o_h2 h3 g2 o_h3 h4 g3 o_h4)) ∨ (∃ (o_h0_3 : Int32) (o_h0_4 : Int32) (o_h0_5 : Int32) (o_h2 : Nat → Int32) (o_h3 : Nat → Int32) (o_h4 : Nat → Int32), 0 ≤ o_h0_3.toInt ∧ o_h0_3.toInt ≤ 243 ∧ 0 ≤ o_h0_4.toInt ∧ o_h0_4.toInt ≤ 240 ∧ (pm_x o_h4 v4 - pm_x f21 v4 ≤ o_h0_3.toInt - v2.toInt ∧ v2.toInt ≤ o_h0_3.toInt) ∧ (pm_F v4 f19 f20 f21 o_h2 o_h3 o_h4) ∧ (pg_con f18 v1.toInt (pg_unit f18 v1.toInt 3) v2.toInt = (false, o_h0_4.toInt)) ∧ va_P (dC, dI) vwCl (wd_d906eaf1 h0 v0 h1 v1 o_h0_3 o_h0_4 o_h0_5 h2 h3 h4 r0 r1 r2 r3 v3 v4 r4 r5 r6 r7 v5 r8 r9 v6 v7 r10 r11 v8 v9 r12 v10 v11 r13 v12 w13 r14 v14 v15 r15 r16 r17 r18 r19 r20 v16 r21 r22 r23 v17 h1 g0 f18 h2 g1 o_h2 h3 g2 o_h3 h4 g3 o_h4) t.heap ∧ va_K (dC, dI) vwCl [] t ∧ va_D (va_A (wd_d906eaf1 h0 v0 h1 v1 v2 (-1) 3 h2 h3 h4 r0 r1 r2 r3 v3 v4 r4 r5 r6 r7 v5 r8 r9 v6 v7 r10 r11 v8 v9 r12 v10 v11 r13 v12 w13 r14 v14 v15 r15 r16 r17 r18 r19 r20 v16 r21 r22 r23 v17 h1 g0 f18 h2 g1 f19 h3 g2 f20 h4 g3 f21) sz) (wd_d906eaf1 h0 v0 h1 v1 o_h0_3 o_h0_4 o_h0_5 h2 h3 h4 r0 r1 r2 r3 v3 v4 r4 r5 r6 r7 v5 r8 r9 v6 v7 r10 r11 v8 v9 r12 v10 v11 r13 v12 w13 r14 v14 v15 r15 r16 r17 r18 r19 r20 v16 r21 r22 r23 v17 h1 g0 f18 h2 g1 o_h2 h3 g2 o_h3 h4 g3 o_h4))) (va_A (wd_d906eaf1 h0 v0 h1 v1 v2 (-1) 3 h2 h3 h4 r0 r1 r2 r3 v3 v4 r4 r5 r6 r7 v5 r8 r9 v6 v7 r10 r11 v8 v9 r12 v10 v11 r13 v12 w13 r14 v14 v15 r15 r16 r17 r18 r19 r20 v16 r21 r22 r23 v17 h1 g0 f18 h2 g1 f19 h3 g2 f20 h4 g3 f21) sz)) 0 0 (va_A (wd_d906eaf1 h0 v0 h1 v1 v2 (-1) 3 h2 h3 h4 r0 r1 r2 r3 v3 v4 r4 r5 r6 r7 v5 r8 r9 v6 v7 r10 r11 v8 v9 r12 v10 v11 r13 v12 w13 r14 v14 v15 r15 r16 r17 r18 r19 r20 v16 r21 r22 r23 v17 h1 g0 f18 h2 g1 f19 h3 g2 f20 h4 g3 f21) sz) := by
  refine Met.ofW (cc := cX12_condition) (maxL := 1) (ret := none) (by decide) rfl ?_
  intro p e s m args below meth c s₁ B hml hv
  obtain ⟨i_v1a, i_v1b⟩ := i_v1
  obtain ⟨i_v2a, i_v2b⟩ := i_v2
  obtain ⟨i_v3a, i_v3b⟩ := i_v3
  obtain ⟨i_v4a, i_v4b⟩ := i_v4
  obtain ⟨i_v5a, i_v5b⟩ := i_v5
  obtain ⟨i_v6a, i_v6b⟩ := i_v6
  obtain ⟨i_v7a, i_v7b⟩ := i_v7
  obtain ⟨i_v8a, i_v8b⟩ := i_v8
  obtain ⟨i_v12a, i_v12b⟩ := i_v12
  obtain ⟨i_v16a, i_v16b⟩ := i_v16
  obtain ⟨i_v17a, i_v17b⟩ := i_v17
  obtain ⟨rfl, hsz, hP, hK, hD0⟩ := hv
  have hx := B.exec
  have hb := B.bytes
  have hr := B.returns
  have hts := atoms_spec (ws := q_X12_condition_3) B.pre
  have hown : s.vm.findClass RX12 = some m.cls := findClass_of_methodNamed B.named
  have hlocks := B.notSynchronized
  subst hsz
  have hD := hD0.self (sz := s.heap.size)
  generalize hAe : va_A (wd_d906eaf1 h0 v0 h1 v1 v2 (-1) 3 h2 h3 h4 r0 r1 r2 r3 v3 v4 r4 r5 r6 r7 v5 r8 r9 v6 v7 r10 r11 v8 v9 r12 v10 v11 r13 v12 w13 r14 v14 v15 r15 r16 r17 r18 r19 r20 v16 r21 r22 r23 v17 h1 g0 f18 h2 g1 f19 h3 g2 f20 h4 g3 f21) s.heap.size = A at hD ⊢
  have hA : ∀ q : Nat, s.heap.size ≤ q → A q := fun q h => by rw [← hAe]; exact Or.inr h
  have hS : va_S A s.heap s.heap [] := va_S.rf
  generalize hQ : (MQ below _ _ s 0 0 A) = Q
  have hl := lv_entry ([.ref h0]) (n := 1) (Nat.le_of_ble_eq_true rfl)
  rw [lg_entry_eq]
  generalize (lg_sl ([.ref h0]) ++ List.replicate (1 - (lg_sl ([.ref h0])).length) Slot.unset).toArray = ls at hl ⊢
  have hl : lv_has ls 1 [(0, .ref h0)] := hl
  obtain ⟨H, hH⟩ : ∃ H : Heap, H = s.heap := ⟨_, rfl⟩
  obtain ⟨locs, hlocs⟩ : ∃ y : List Loc, y = [] := ⟨_, rfl⟩
  have hS : va_S A s.heap H locs := by rw [hH, hlocs]; exact va_S.rf
  have hP : va_P (dC, dI) vwCl (wd_d906eaf1 h0 v0 h1 v1 v2 (-1) 3 h2 h3 h4 r0 r1 r2 r3 v3 v4 r4 r5 r6 r7 v5 r8 r9 v6 v7 r10 r11 v8 v9 r12 v10 v11 r13 v12 w13 r14 v14 v15 r15 r16 r17 r18 r19 r20 v16 r21 r22 r23 v17 h1 g0 f18 h2 g1 f19 h3 g2 f20 h4 g3 f21) H := by rw [hH]; exact hP
  rw [← hH, ← hlocs]
  have px1 := pp0.1; have px2 := pp0.2
  have hgR := pm_R.refl (L := 0) v4 f19 f20 f21 px1
  have hgF := hgR.1
  refine lv_aload_n hx hb dX12_condition_0 rfl (lv_at hl 0 rfl) ?_
  have hPc := hP.sub (ws' := (wd_d906eaf1 h0 v0 h1 v1 v2 (-1) 3 h2 h3 h4 r0 r1 r2 r3 v3 v4 r4 r5 r6 r7 v5 r8 r9 v6 v7 r10 r11 v8 v9 r12 v10 v11 r13 v12 w13 r14 v14 v15 r15 r16 r17 r18 r19 r20 v16 r21 r22 r23 v17 h1 g0 f18 h2 g1 f19 h3 g2 f20 h4 g3 f21)) [0, 1, 2, 3, 4] rfl
  have hDc := hD.sub (ws' := (wd_d906eaf1 h0 v0 h1 v1 v2 (-1) 3 h2 h3 h4 r0 r1 r2 r3 v3 v4 r4 r5 r6 r7 v5 r8 r9 v6 v7 r10 r11 v8 v9 r12 v10 v11 r13 v12 w13 r14 v14 v15 r15 r16 r17 r18 r19 r20 v16 r21 r22 r23 v17 h1 g0 f18 h2 g1 f19 h3 g2 f20 h4 g3 f21)) [0, 1, 2, 3, 4] (by decide) rfl
  have hKc := hK.sub (tys' := [(g0, .int), (g1, .int), (g2, .int), (g3, .int)]) [0, 1, 2, 3] rfl
  have hFc := va_free (wc := (wd_d906eaf1 h0 v0 h1 v1 v2 (-1) 3 h2 h3 h4 r0 r1 r2 r3 v3 v4 r4 r5 r6 r7 v5 r8 r9 v6 v7 r10 r11 v8 v9 r12 v10 v11 r13 v12 w13 r14 v14 v15 r15 r16 r17 r18 r19 r20 v16 r21 r22 r23 v17 h1 g0 f18 h2 g1 f19 h3 g2 f20 h4 g3 f21)) hD hS hA [0, 1, 2, 3, 4] rfl
  refine va_callv (va_runV (As := []) (rest := []) ⟨hx, hb, hml, hown, hts⟩ (k_X12_unit_3 l dC dI h0 h1 h2 h3 h4 v0 v1 v2 r0 r1 r2 r3 v3 v4 r4 r5 r6 r7 v5 r8 r9 v6 v7 r10 r11 v8 v9 r12 v10 v11 r13 v12 w13 r14 v14 v15 r15 r16 r17 r18 r19 r20 v16 r21 r22 r23 v17 g0 f18 g1 f19 g2 f20 g3 f21 ⟨i_v1a, i_v1b⟩ ⟨i_v2a, i_v2b⟩ ⟨i_v3a, i_v3b⟩ ⟨i_v4a, i_v4b⟩ ⟨i_v5a, i_v5b⟩ ⟨i_v6a, i_v6b⟩ ⟨i_v7a, i_v7b⟩ ⟨i_v8a, i_v8b⟩ ⟨i_v12a, i_v12b⟩ ⟨i_v16a, i_v16b⟩ ⟨i_v17a, i_v17b⟩ ia_f18 pp0 H.size) (cwV 0 hts g_X12_condition_3_0 rfl rfl rfl (by decide +kernel) ⟨Nat.le_of_ble_eq_true rfl, Nat.le_of_ble_eq_true rfl⟩) (pv_PV12 hPc hKc hDc (q0 := 0) rfl) rfl rfl hl.1 rfl (lv_room (Nat.le_of_ble_eq_true rfl)) dX12_condition_1 ⟨Nat.le_of_ble_eq_true rfl, Nat.le_of_ble_eq_true rfl⟩) hS (fun q _ h => hFc q h) hFc (fun u t H1 locs ht hvm hwra1 hB hz1 hk1 hS => ?_)
  rcases hB with hB | hB
  · skip
    obtain ⟨x2, fn3, fn4, fn5, oa_x2, ob_x2, pt0_ra1, pt1_ra1, pt2_ra1, hP1, hK1, hD1⟩ := hB
    rw [ht] at hP1
    obtain ⟨hP2, hD2⟩ := va_join (wr := []) (w1 := (wd_d906eaf1 h0 v0 h1 v1 x2 (-1) 3 h2 h3 h4 r0 r1 r2 r3 v3 v4 r4 r5 r6 r7 v5 r8 r9 v6 v7 r10 r11 v8 v9 r12 v10 v11 r13 v12 w13 r14 v14 v15 r15 r16 r17 r18 r19 r20 v16 r21 r22 r23 v17 h1 g0 f18 h2 g1 fn3 h3 g2 fn4 h4 g3 fn5)) hP hD [0, 1, 2, 3, 4] [] rfl rfl (by decide) (by decide) hk1 hFc hP1 hD1
    clear hP hD hPc hDc hKc hFc hP1 hK1 hD1 hk1 hz1
    generalize H1 = H at hP2 hS ⊢
    have hP : va_P (dC, dI) vwCl (wd_d906eaf1 h0 v0 h1 v1 x2 (-1) 3 h2 h3 h4 r0 r1 r2 r3 v3 v4 r4 r5 r6 r7 v5 r8 r9 v6 v7 r10 r11 v8 v9 r12 v10 v11 r13 v12 w13 r14 v14 v15 r15 r16 r17 r18 r19 r20 v16 r21 r22 r23 v17 h1 g0 f18 h2 g1 fn3 h3 g2 fn4 h4 g3 fn5) H := hP2
    have hD : va_D A (wd_d906eaf1 h0 v0 h1 v1 x2 (-1) 3 h2 h3 h4 r0 r1 r2 r3 v3 v4 r4 r5 r6 r7 v5 r8 r9 v6 v7 r10 r11 v8 v9 r12 v10 v11 r13 v12 w13 r14 v14 v15 r15 r16 r17 r18 r19 r20 v16 r21 r22 r23 v17 h1 g0 f18 h2 g1 fn3 h3 g2 fn4 h4 g3 fn5) := hD2
    clear hP2 hD2
    have hgR := hgR.app (k' := 1) (D := 10) pt1_ra1 (by decide) (by decide) (by decide) (by decide)
    have hgF := hgR.1
    have hxl := hgF.1
    refine lv_aload_n hx hb dX12_condition_4 rfl (lv_at hl 0 rfl) ?_
    have hPc := hP.sub (ws' := (wd_d906eaf1 h0 v0 h1 v1 x2 (-1) 3 h2 h3 h4 r0 r1 r2 r3 v3 v4 r4 r5 r6 r7 v5 r8 r9 v6 v7 r10 r11 v8 v9 r12 v10 v11 r13 v12 w13 r14 v14 v15 r15 r16 r17 r18 r19 r20 v16 r21 r22 r23 v17 h1 g0 f18 h2 g1 fn3 h3 g2 fn4 h4 g3 fn5)) [0, 1, 2, 3, 4] rfl
    have hDc := hD.sub (ws' := (wd_d906eaf1 h0 v0 h1 v1 x2 (-1) 3 h2 h3 h4 r0 r1 r2 r3 v3 v4 r4 r5 r6 r7 v5 r8 r9 v6 v7 r10 r11 v8 v9 r12 v10 v11 r13 v12 w13 r14 v14 v15 r15 r16 r17 r18 r19 r20 v16 r21 r22 r23 v17 h1 g0 f18 h2 g1 fn3 h3 g2 fn4 h4 g3 fn5)) [0, 1, 2, 3, 4] (by decide) rfl
    have hKc := hK.sub (tys' := [(g0, .int), (g1, .int), (g2, .int), (g3, .int)]) [0, 1, 2, 3] rfl
    have hFc := va_free (wc := (wd_d906eaf1 h0 v0 h1 v1 x2 (-1) 3 h2 h3 h4 r0 r1 r2 r3 v3 v4 r4 r5 r6 r7 v5 r8 r9 v6 v7 r10 r11 v8 v9 r12 v10 v11 r13 v12 w13 r14 v14 v15 r15 r16 r17 r18 r19 r20 v16 r21 r22 r23 v17 h1 g0 f18 h2 g1 fn3 h3 g2 fn4 h4 g3 fn5)) hD hS hA [0, 1, 2, 3, 4] rfl
    refine va_callv (va_runV (As := []) (rest := []) ⟨hx, hb, hml, hown, hts⟩ (k_X12_goOnAnd_4 l dC dI h0 h1 h2 h3 h4 v0 v1 x2 r0 r1 r2 r3 v3 v4 r4 r5 r6 r7 v5 r8 r9 v6 v7 r10 r11 v8 v9 r12 v10 v11 r13 v12 w13 r14 v14 v15 r15 r16 r17 r18 r19 r20 v16 r21 r22 r23 v17 g0 f18 g1 fn3 g2 fn4 g3 fn5 ⟨i_v1a, i_v1b⟩ ⟨oa_x2, ob_x2⟩ ⟨i_v3a, i_v3b⟩ ⟨i_v4a, i_v4b⟩ ⟨i_v5a, i_v5b⟩ ⟨i_v6a, i_v6b⟩ ⟨i_v7a, i_v7b⟩ ⟨i_v8a, i_v8b⟩ ⟨i_v12a, i_v12b⟩ ⟨i_v16a, i_v16b⟩ ⟨i_v17a, i_v17b⟩ ia_f18 (by constructor <;> omega) H.size) (cwV 0 hts g_X12_condition_3_1 rfl rfl rfl (by decide +kernel) ⟨Nat.le_of_ble_eq_true rfl, Nat.le_of_ble_eq_true rfl⟩) (pv_PV12 hPc hKc hDc (q0 := 0) rfl) rfl rfl hl.1 rfl (lv_room (Nat.le_of_ble_eq_true rfl)) dX12_condition_5 ⟨Nat.le_of_ble_eq_true rfl, Nat.le_of_ble_eq_true rfl⟩) hS (fun q _ h => hFc q h) hFc (fun u t H1 locs ht hvm hwra6 hB hz1 hk1 hS => ?_)
    rcases hB with hB | hB
    · skip
      obtain ⟨x7, fn8, fn9, fn10, oa_x7, ob_x7, pt0_ra6, pt1_ra6, pt2_ra6, hP1, hK1, hD1⟩ := hB
      rw [ht] at hP1
      obtain ⟨hP2, hD2⟩ := va_join (wr := []) (w1 := (wd_d906eaf1 h0 v0 h1 v1 x7 (-1) 3 h2 h3 h4 r0 r1 r2 r3 v3 v4 r4 r5 r6 r7 v5 r8 r9 v6 v7 r10 r11 v8 v9 r12 v10 v11 r13 v12 w13 r14 v14 v15 r15 r16 r17 r18 r19 r20 v16 r21 r22 r23 v17 h1 g0 f18 h2 g1 fn8 h3 g2 fn9 h4 g3 fn10)) hP hD [0, 1, 2, 3, 4] [] rfl rfl (by decide) (by decide) hk1 hFc hP1 hD1
      clear hP hD hPc hDc hKc hFc hP1 hK1 hD1 hk1 hz1
      generalize H1 = H at hP2 hS ⊢
      have hP : va_P (dC, dI) vwCl (wd_d906eaf1 h0 v0 h1 v1 x7 (-1) 3 h2 h3 h4 r0 r1 r2 r3 v3 v4 r4 r5 r6 r7 v5 r8 r9 v6 v7 r10 r11 v8 v9 r12 v10 v11 r13 v12 w13 r14 v14 v15 r15 r16 r17 r18 r19 r20 v16 r21 r22 r23 v17 h1 g0 f18 h2 g1 fn8 h3 g2 fn9 h4 g3 fn10) H := hP2
      have hD : va_D A (wd_d906eaf1 h0 v0 h1 v1 x7 (-1) 3 h2 h3 h4 r0 r1 r2 r3 v3 v4 r4 r5 r6 r7 v5 r8 r9 v6 v7 r10 r11 v8 v9 r12 v10 v11 r13 v12 w13 r14 v14 v15 r15 r16 r17 r18 r19 r20 v16 r21 r22 r23 v17 h1 g0 f18 h2 g1 fn8 h3 g2 fn9 h4 g3 fn10) := hD2
      clear hP2 hD2
      have hgR := hgR.app (k' := 1) (D := 11) pt1_ra6 (by decide) (by decide) (by decide) (by decide)
      have hgF := hgR.1
      have hxl := hgF.1
      refine lv_aload_n hx hb dX12_condition_8 rfl (lv_at hl 0 rfl) ?_
      have hPc := hP.sub (ws' := (wd_d906eaf1 h0 v0 h1 v1 x7 (-1) 3 h2 h3 h4 r0 r1 r2 r3 v3 v4 r4 r5 r6 r7 v5 r8 r9 v6 v7 r10 r11 v8 v9 r12 v10 v11 r13 v12 w13 r14 v14 v15 r15 r16 r17 r18 r19 r20 v16 r21 r22 r23 v17 h1 g0 f18 h2 g1 fn8 h3 g2 fn9 h4 g3 fn10)) [0, 1, 2, 3, 4] rfl
      have hDc := hD.sub (ws' := (wd_d906eaf1 h0 v0 h1 v1 x7 (-1) 3 h2 h3 h4 r0 r1 r2 r3 v3 v4 r4 r5 r6 r7 v5 r8 r9 v6 v7 r10 r11 v8 v9 r12 v10 v11 r13 v12 w13 r14 v14 v15 r15 r16 r17 r18 r19 r20 v16 r21 r22 r23 v17 h1 g0 f18 h2 g1 fn8 h3 g2 fn9 h4 g3 fn10)) [0, 1, 2, 3, 4] (by decide) rfl
      have hKc := hK.sub (tys' := [(g0, .int), (g1, .int), (g2, .int), (g3, .int)]) [0, 1, 2, 3] rfl
      have hFc := va_free (wc := (wd_d906eaf1 h0 v0 h1 v1 x7 (-1) 3 h2 h3 h4 r0 r1 r2 r3 v3 v4 r4 r5 r6 r7 v5 r8 r9 v6 v7 r10 r11 v8 v9 r12 v10 v11 r13 v12 w13 r14 v14 v15 r15 r16 r17 r18 r19 r20 v16 r21 r22 r23 v17 h1 g0 f18 h2 g1 fn8 h3 g2 fn9 h4 g3 fn10)) hD hS hA [0, 1, 2, 3, 4] rfl
      refine va_callv (va_runV (As := []) (rest := []) ⟨hx, hb, hml, hown, hts⟩ (k_X12_goOnOr_4 l dC dI h0 h1 h2 h3 h4 v0 v1 x7 r0 r1 r2 r3 v3 v4 r4 r5 r6 r7 v5 r8 r9 v6 v7 r10 r11 v8 v9 r12 v10 v11 r13 v12 w13 r14 v14 v15 r15 r16 r17 r18 r19 r20 v16 r21 r22 r23 v17 g0 f18 g1 fn8 g2 fn9 g3 fn10 ⟨i_v1a, i_v1b⟩ ⟨oa_x7, ob_x7⟩ ⟨i_v3a, i_v3b⟩ ⟨i_v4a, i_v4b⟩ ⟨i_v5a, i_v5b⟩ ⟨i_v6a, i_v6b⟩ ⟨i_v7a, i_v7b⟩ ⟨i_v8a, i_v8b⟩ ⟨i_v12a, i_v12b⟩ ⟨i_v16a, i_v16b⟩ ⟨i_v17a, i_v17b⟩ ia_f18 (by constructor <;> omega) H.size) (cwV 0 hts g_X12_condition_3_2 rfl rfl rfl (by decide +kernel) ⟨Nat.le_of_ble_eq_true rfl, Nat.le_of_ble_eq_true rfl⟩) (pv_PV12 hPc hKc hDc (q0 := 0) rfl) rfl rfl hl.1 rfl (lv_room (Nat.le_of_ble_eq_true rfl)) dX12_condition_9 ⟨Nat.le_of_ble_eq_true rfl, Nat.le_of_ble_eq_true rfl⟩) hS (fun q _ h => hFc q h) hFc (fun u t H1 locs ht hvm hwra11 hB hz1 hk1 hS => ?_)
      rcases hB with hB | hB
      · skip
        obtain ⟨x12, fn13, fn14, fn15, oa_x12, ob_x12, pt0_ra11, pt1_ra11, pt2_ra11, hP1, hK1, hD1⟩ := hB
        rw [ht] at hP1
        obtain ⟨hP2, hD2⟩ := va_join (wr := []) (w1 := (wd_d906eaf1 h0 v0 h1 v1 x12 (-1) 3 h2 h3 h4 r0 r1 r2 r3 v3 v4 r4 r5 r6 r7 v5 r8 r9 v6 v7 r10 r11 v8 v9 r12 v10 v11 r13 v12 w13 r14 v14 v15 r15 r16 r17 r18 r19 r20 v16 r21 r22 r23 v17 h1 g0 f18 h2 g1 fn13 h3 g2 fn14 h4 g3 fn15)) hP hD [0, 1, 2, 3, 4] [] rfl rfl (by decide) (by decide) hk1 hFc hP1 hD1
        clear hP hD hPc hDc hKc hFc hP1 hK1 hD1 hk1 hz1
        generalize H1 = H at hP2 hS ⊢
        have hP : va_P (dC, dI) vwCl (wd_d906eaf1 h0 v0 h1 v1 x12 (-1) 3 h2 h3 h4 r0 r1 r2 r3 v3 v4 r4 r5 r6 r7 v5 r8 r9 v6 v7 r10 r11 v8 v9 r12 v10 v11 r13 v12 w13 r14 v14 v15 r15 r16 r17 r18 r19 r20 v16 r21 r22 r23 v17 h1 g0 f18 h2 g1 fn13 h3 g2 fn14 h4 g3 fn15) H := hP2
        have hD : va_D A (wd_d906eaf1 h0 v0 h1 v1 x12 (-1) 3 h2 h3 h4 r0 r1 r2 r3 v3 v4 r4 r5 r6 r7 v5 r8 r9 v6 v7 r10 r11 v8 v9 r12 v10 v11 r13 v12 w13 r14 v14 v15 r15 r16 r17 r18 r19 r20 v16 r21 r22 r23 v17 h1 g0 f18 h2 g1 fn13 h3 g2 fn14 h4 g3 fn15) := hD2
        clear hP2 hD2
        have hgR := hgR.app (k' := 1) (D := 12) pt1_ra11 (by decide) (by decide) (by decide) (by decide)
        have hgF := hgR.1
        have hxl := hgF.1
        subst hQ
        have hP9 := hP.sub (ws' := (wd_d906eaf1 h0 v0 h1 v1 x12 (-1) 3 h2 h3 h4 r0 r1 r2 r3 v3 v4 r4 r5 r6 r7 v5 r8 r9 v6 v7 r10 r11 v8 v9 r12 v10 v11 r13 v12 w13 r14 v14 v15 r15 r16 r17 r18 r19 r20 v16 r21 r22 r23 v17 h1 g0 f18 h2 g1 fn13 h3 g2 fn14 h4 g3 fn15)) [0, 1, 2, 3, 4] rfl
        have hD9 := hD.sub (ws' := (wd_d906eaf1 h0 v0 h1 v1 x12 (-1) 3 h2 h3 h4 r0 r1 r2 r3 v3 v4 r4 r5 r6 r7 v5 r8 r9 v6 v7 r10 r11 v8 v9 r12 v10 v11 r13 v12 w13 r14 v14 v15 r15 r16 r17 r18 r19 r20 v16 r21 r22 r23 v17 h1 g0 f18 h2 g1 fn13 h3 g2 fn14 h4 g3 fn15)) [0, 1, 2, 3, 4] (by decide) rfl
        have hK9 := hK.sub (tys' := []) [] rfl
        exact W.vret hx hb hr (fun t ht hW => ⟨⟨(), rfl, trivial, Or.inl ⟨x12, fn13, fn14, fn15, oa_x12, ob_x12, by constructor <;> omega, by exact hgR.mono (by decide), by first | (apply pg_con.ok <;> first | assumption | omega) | (apply pg_con.no2 <;> first | assumption | omega) | (apply pg_con.no <;> first | assumption | omega), by rw [ht]; exact hP9, va_K.moved hW.alike hK9, hD9⟩⟩, hS.F ht⟩) hS.2.2 dX12_condition_12
      · skip
        obtain ⟨x16, x17, x18, fn19, fn20, fn21, oa_x16, ob_x16, oa_x17, ob_x17, pt0_ra11, pt1_ra11, pt2_ra11, hP1, hK1, hD1⟩ := hB
        rw [ht] at hP1
        obtain ⟨hP2, hD2⟩ := va_join (wr := []) (w1 := (wd_d906eaf1 h0 v0 h1 v1 x16 x17 x18 h2 h3 h4 r0 r1 r2 r3 v3 v4 r4 r5 r6 r7 v5 r8 r9 v6 v7 r10 r11 v8 v9 r12 v10 v11 r13 v12 w13 r14 v14 v15 r15 r16 r17 r18 r19 r20 v16 r21 r22 r23 v17 h1 g0 f18 h2 g1 fn19 h3 g2 fn20 h4 g3 fn21)) hP hD [0, 1, 2, 3, 4] [] rfl rfl (by decide) (by decide) hk1 hFc hP1 hD1
        clear hP hD hPc hDc hKc hFc hP1 hK1 hD1 hk1 hz1
        generalize H1 = H at hP2 hS ⊢
        have hP : va_P (dC, dI) vwCl (wd_d906eaf1 h0 v0 h1 v1 x16 x17 x18 h2 h3 h4 r0 r1 r2 r3 v3 v4 r4 r5 r6 r7 v5 r8 r9 v6 v7 r10 r11 v8 v9 r12 v10 v11 r13 v12 w13 r14 v14 v15 r15 r16 r17 r18 r19 r20 v16 r21 r22 r23 v17 h1 g0 f18 h2 g1 fn19 h3 g2 fn20 h4 g3 fn21) H := hP2
        have hD : va_D A (wd_d906eaf1 h0 v0 h1 v1 x16 x17 x18 h2 h3 h4 r0 r1 r2 r3 v3 v4 r4 r5 r6 r7 v5 r8 r9 v6 v7 r10 r11 v8 v9 r12 v10 v11 r13 v12 w13 r14 v14 v15 r15 r16 r17 r18 r19 r20 v16 r21 r22 r23 v17 h1 g0 f18 h2 g1 fn19 h3 g2 fn20 h4 g3 fn21) := hD2
        clear hP2 hD2
        have hgF := hgF.app pt1_ra11
        have hxl := hgF.1
        subst hQ
        have hP9 := hP.sub (ws' := (wd_d906eaf1 h0 v0 h1 v1 x16 x17 x18 h2 h3 h4 r0 r1 r2 r3 v3 v4 r4 r5 r6 r7 v5 r8 r9 v6 v7 r10 r11 v8 v9 r12 v10 v11 r13 v12 w13 r14 v14 v15 r15 r16 r17 r18 r19 r20 v16 r21 r22 r23 v17 h1 g0 f18 h2 g1 fn19 h3 g2 fn20 h4 g3 fn21)) [0, 1, 2, 3, 4] rfl
        have hD9 := hD.sub (ws' := (wd_d906eaf1 h0 v0 h1 v1 x16 x17 x18 h2 h3 h4 r0 r1 r2 r3 v3 v4 r4 r5 r6 r7 v5 r8 r9 v6 v7 r10 r11 v8 v9 r12 v10 v11 r13 v12 w13 r14 v14 v15 r15 r16 r17 r18 r19 r20 v16 r21 r22 r23 v17 h1 g0 f18 h2 g1 fn19 h3 g2 fn20 h4 g3 fn21)) [0, 1, 2, 3, 4] (by decide) rfl
        have hK9 := hK.sub (tys' := []) [] rfl
        exact W.vret hx hb hr (fun t ht hW => ⟨⟨(), rfl, trivial, Or.inr (⟨x16, x17, x18, fn19, fn20, fn21, oa_x16, ob_x16, oa_x17, ob_x17, by constructor <;> omega, by exact hgF, by first | (apply pg_con.ok <;> first | assumption | omega) | (apply pg_con.no2 <;> first | assumption | omega) | (apply pg_con.no <;> first | assumption | omega), by rw [ht]; exact hP9, va_K.moved hW.alike hK9, hD9⟩)⟩, hS.F ht⟩) hS.2.2 dX12_condition_12
    · skip
      obtain ⟨x22, x23, x24, fn25, fn26, fn27, oa_x22, ob_x22, oa_x23, ob_x23, pt0_ra6, pt1_ra6, pt2_ra6, hP1, hK1, hD1⟩ := hB
      rw [ht] at hP1
      obtain ⟨hP2, hD2⟩ := va_join (wr := []) (w1 := (wd_d906eaf1 h0 v0 h1 v1 x22 x23 x24 h2 h3 h4 r0 r1 r2 r3 v3 v4 r4 r5 r6 r7 v5 r8 r9 v6 v7 r10 r11 v8 v9 r12 v10 v11 r13 v12 w13 r14 v14 v15 r15 r16 r17 r18 r19 r20 v16 r21 r22 r23 v17 h1 g0 f18 h2 g1 fn25 h3 g2 fn26 h4 g3 fn27)) hP hD [0, 1, 2, 3, 4] [] rfl rfl (by decide) (by decide) hk1 hFc hP1 hD1
      clear hP hD hPc hDc hKc hFc hP1 hK1 hD1 hk1 hz1
      generalize H1 = H at hP2 hS ⊢
      have hP : va_P (dC, dI) vwCl (wd_d906eaf1 h0 v0 h1 v1 x22 x23 x24 h2 h3 h4 r0 r1 r2 r3 v3 v4 r4 r5 r6 r7 v5 r8 r9 v6 v7 r10 r11 v8 v9 r12 v10 v11 r13 v12 w13 r14 v14 v15 r15 r16 r17 r18 r19 r20 v16 r21 r22 r23 v17 h1 g0 f18 h2 g1 fn25 h3 g2 fn26 h4 g3 fn27) H := hP2
      have hD : va_D A (wd_d906eaf1 h0 v0 h1 v1 x22 x23 x24 h2 h3 h4 r0 r1 r2 r3 v3 v4 r4 r5 r6 r7 v5 r8 r9 v6 v7 r10 r11 v8 v9 r12 v10 v11 r13 v12 w13 r14 v14 v15 r15 r16 r17 r18 r19 r20 v16 r21 r22 r23 v17 h1 g0 f18 h2 g1 fn25 h3 g2 fn26 h4 g3 fn27) := hD2
      clear hP2 hD2
      have hgF := hgF.app pt1_ra6
      have hxl := hgF.1
      refine lv_aload_n hx hb dX12_condition_8 rfl (lv_at hl 0 rfl) ?_
      have hPc := hP.sub (ws' := (wd_171f232f h0 v0 h1 v1 x22 x23 x24 h2 h3 h4 r0 r1 r2 r3 v3 v4 r4 r5 r6 r7 v5 r8 r9 v6 v7 r10 r11 v8 v9 r12 v10 v11 r13 v12 w13 r14 v14 v15 r15 r16 r17 r18 r19 r20 v16 r21 r22 r23 v17)) [0] rfl
      have hDc := hD.sub (ws' := (wd_171f232f h0 v0 h1 v1 x22 x23 x24 h2 h3 h4 r0 r1 r2 r3 v3 v4 r4 r5 r6 r7 v5 r8 r9 v6 v7 r10 r11 v8 v9 r12 v10 v11 r13 v12 w13 r14 v14 v15 r15 r16 r17 r18 r19 r20 v16 r21 r22 r23 v17)) [0] (by decide) rfl
      have hKc := hK.sub (tys' := []) [] rfl
      have hFc := va_free (wc := (wd_171f232f h0 v0 h1 v1 x22 x23 x24 h2 h3 h4 r0 r1 r2 r3 v3 v4 r4 r5 r6 r7 v5 r8 r9 v6 v7 r10 r11 v8 v9 r12 v10 v11 r13 v12 w13 r14 v14 v15 r15 r16 r17 r18 r19 r20 v16 r21 r22 r23 v17)) hD hS hA [0] rfl
      refine va_callv (va_runV (As := []) (rest := []) ⟨hx, hb, hml, hown, hts⟩ (k_X12_goOnOr_1 l dC dI h0 v0 h1 v1 x22 x23 x24 h2 h3 h4 r0 r1 r2 r3 v3 v4 r4 r5 r6 r7 v5 r8 r9 v6 v7 r10 r11 v8 v9 r12 v10 v11 r13 v12 w13 r14 v14 v15 r15 r16 r17 r18 r19 r20 v16 r21 r22 r23 v17 ⟨i_v1a, i_v1b⟩ ⟨oa_x23, by first | omega | decide⟩ ⟨i_v3a, i_v3b⟩ ⟨i_v4a, i_v4b⟩ ⟨i_v5a, i_v5b⟩ ⟨i_v6a, i_v6b⟩ ⟨i_v7a, i_v7b⟩ ⟨i_v8a, i_v8b⟩ ⟨i_v12a, i_v12b⟩ ⟨i_v16a, i_v16b⟩ ⟨i_v17a, i_v17b⟩ H.size) (cwV 0 hts g_X12_condition_3_3 rfl rfl rfl (by decide +kernel) ⟨Nat.le_of_ble_eq_true rfl, Nat.le_of_ble_eq_true rfl⟩) (pv_PV12 hPc hKc hDc (q0 := 0) rfl) rfl rfl hl.1 rfl (lv_room (Nat.le_of_ble_eq_true rfl)) dX12_condition_9 ⟨Nat.le_of_ble_eq_true rfl, Nat.le_of_ble_eq_true rfl⟩) hS (fun q _ h => hFc q h) hFc (fun u t H1 locs ht hvm hwra28 hB hz1 hk1 hS => ?_)
      obtain ⟨hP1, hK1, hD1⟩ := hB
      rw [ht] at hP1
      obtain ⟨hP2, hD2⟩ := va_join (wr := (wd_bfe486e6 h1 g0 f18 h2 g1 fn25 h3 g2 fn26 h4 g3 fn27)) (w1 := (wd_171f232f h0 v0 h1 v1 x22 x23 x24 h2 h3 h4 r0 r1 r2 r3 v3 v4 r4 r5 r6 r7 v5 r8 r9 v6 v7 r10 r11 v8 v9 r12 v10 v11 r13 v12 w13 r14 v14 v15 r15 r16 r17 r18 r19 r20 v16 r21 r22 r23 v17)) hP hD [0] [1, 2, 3, 4] rfl rfl (by decide) (by decide) hk1 hFc hP1 hD1
      clear hP hD hPc hDc hKc hFc hP1 hK1 hD1 hk1 hz1
      generalize H1 = H at hP2 hS ⊢
      have hP := hP2.sub (ws' := (wd_d906eaf1 h0 v0 h1 v1 x22 x23 x24 h2 h3 h4 r0 r1 r2 r3 v3 v4 r4 r5 r6 r7 v5 r8 r9 v6 v7 r10 r11 v8 v9 r12 v10 v11 r13 v12 w13 r14 v14 v15 r15 r16 r17 r18 r19 r20 v16 r21 r22 r23 v17 h1 g0 f18 h2 g1 fn25 h3 g2 fn26 h4 g3 fn27)) [4, 0, 1, 2, 3] rfl
      have hD := hD2.sub (ws' := (wd_d906eaf1 h0 v0 h1 v1 x22 x23 x24 h2 h3 h4 r0 r1 r2 r3 v3 v4 r4 r5 r6 r7 v5 r8 r9 v6 v7 r10 r11 v8 v9 r12 v10 v11 r13 v12 w13 r14 v14 v15 r15 r16 r17 r18 r19 r20 v16 r21 r22 r23 v17 h1 g0 f18 h2 g1 fn25 h3 g2 fn26 h4 g3 fn27)) [4, 0, 1, 2, 3] (by decide) rfl
      clear hP2 hD2
      subst hQ
      have hP9 := hP.sub (ws' := (wd_d906eaf1 h0 v0 h1 v1 x22 x23 x24 h2 h3 h4 r0 r1 r2 r3 v3 v4 r4 r5 r6 r7 v5 r8 r9 v6 v7 r10 r11 v8 v9 r12 v10 v11 r13 v12 w13 r14 v14 v15 r15 r16 r17 r18 r19 r20 v16 r21 r22 r23 v17 h1 g0 f18 h2 g1 fn25 h3 g2 fn26 h4 g3 fn27)) [0, 1, 2, 3, 4] rfl
      have hD9 := hD.sub (ws' := (wd_d906eaf1 h0 v0 h1 v1 x22 x23 x24 h2 h3 h4 r0 r1 r2 r3 v3 v4 r4 r5 r6 r7 v5 r8 r9 v6 v7 r10 r11 v8 v9 r12 v10 v11 r13 v12 w13 r14 v14 v15 r15 r16 r17 r18 r19 r20 v16 r21 r22 r23 v17 h1 g0 f18 h2 g1 fn25 h3 g2 fn26 h4 g3 fn27)) [0, 1, 2, 3, 4] (by decide) rfl
      have hK9 := hK.sub (tys' := []) [] rfl
      exact W.vret hx hb hr (fun t ht hW => ⟨⟨(), rfl, trivial, Or.inr (⟨x22, x23, x24, fn25, fn26, fn27, oa_x22, ob_x22, oa_x23, ob_x23, by constructor <;> omega, by exact hgF, by first | (apply pg_con.ok <;> first | assumption | omega) | (apply pg_con.no2 <;> first | assumption | omega) | (apply pg_con.no <;> first | assumption | omega), by rw [ht]; exact hP9, va_K.moved hW.alike hK9, hD9⟩)⟩, hS.F ht⟩) hS.2.2 dX12_condition_12
  · skip
    obtain ⟨x29, x30, x31, fn32, fn33, fn34, oa_x29, ob_x29, oa_x30, ob_x30, pt0_ra1, pt1_ra1, pt2_ra1, hP1, hK1, hD1⟩ := hB
    rw [ht] at hP1
    obtain ⟨hP2, hD2⟩ := va_join (wr := []) (w1 := (wd_d906eaf1 h0 v0 h1 v1 x29 x30 x31 h2 h3 h4 r0 r1 r2 r3 v3 v4 r4 r5 r6 r7 v5 r8 r9 v6 v7 r10 r11 v8 v9 r12 v10 v11 r13 v12 w13 r14 v14 v15 r15 r16 r17 r18 r19 r20 v16 r21 r22 r23 v17 h1 g0 f18 h2 g1 fn32 h3 g2 fn33 h4 g3 fn34)) hP hD [0, 1, 2, 3, 4] [] rfl rfl (by decide) (by decide) hk1 hFc hP1 hD1
    clear hP hD hPc hDc hKc hFc hP1 hK1 hD1 hk1 hz1
    generalize H1 = H at hP2 hS ⊢
    have hP : va_P (dC, dI) vwCl (wd_d906eaf1 h0 v0 h1 v1 x29 x30 x31 h2 h3 h4 r0 r1 r2 r3 v3 v4 r4 r5 r6 r7 v5 r8 r9 v6 v7 r10 r11 v8 v9 r12 v10 v11 r13 v12 w13 r14 v14 v15 r15 r16 r17 r18 r19 r20 v16 r21 r22 r23 v17 h1 g0 f18 h2 g1 fn32 h3 g2 fn33 h4 g3 fn34) H := hP2
    have hD : va_D A (wd_d906eaf1 h0 v0 h1 v1 x29 x30 x31 h2 h3 h4 r0 r1 r2 r3 v3 v4 r4 r5 r6 r7 v5 r8 r9 v6 v7 r10 r11 v8 v9 r12 v10 v11 r13 v12 w13 r14 v14 v15 r15 r16 r17 r18 r19 r20 v16 r21 r22 r23 v17 h1 g0 f18 h2 g1 fn32 h3 g2 fn33 h4 g3 fn34) := hD2
    clear hP2 hD2
    have hgF := hgF.app pt1_ra1
    have hxl := hgF.1
    refine lv_aload_n hx hb dX12_condition_4 rfl (lv_at hl 0 rfl) ?_
    have hPc := hP.sub (ws' := (wd_171f232f h0 v0 h1 v1 x29 x30 x31 h2 h3 h4 r0 r1 r2 r3 v3 v4 r4 r5 r6 r7 v5 r8 r9 v6 v7 r10 r11 v8 v9 r12 v10 v11 r13 v12 w13 r14 v14 v15 r15 r16 r17 r18 r19 r20 v16 r21 r22 r23 v17)) [0] rfl
    have hDc := hD.sub (ws' := (wd_171f232f h0 v0 h1 v1 x29 x30 x31 h2 h3 h4 r0 r1 r2 r3 v3 v4 r4 r5 r6 r7 v5 r8 r9 v6 v7 r10 r11 v8 v9 r12 v10 v11 r13 v12 w13 r14 v14 v15 r15 r16 r17 r18 r19 r20 v16 r21 r22 r23 v17)) [0] (by decide) rfl
    have hKc := hK.sub (tys' := []) [] rfl
    have hFc := va_free (wc := (wd_171f232f h0 v0 h1 v1 x29 x30 x31 h2 h3 h4 r0 r1 r2 r3 v3 v4 r4 r5 r6 r7 v5 r8 r9 v6 v7 r10 r11 v8 v9 r12 v10 v11 r13 v12 w13 r14 v14 v15 r15 r16 r17 r18 r19 r20 v16 r21 r22 r23 v17)) hD hS hA [0] rfl
    refine va_callv (va_runV (As := []) (rest := []) ⟨hx, hb, hml, hown, hts⟩ (k_X12_goOnAnd_1 l dC dI h0 v0 h1 v1 x29 x30 x31 h2 h3 h4 r0 r1 r2 r3 v3 v4 r4 r5 r6 r7 v5 r8 r9 v6 v7 r10 r11 v8 v9 r12 v10 v11 r13 v12 w13 r14 v14 v15 r15 r16 r17 r18 r19 r20 v16 r21 r22 r23 v17 ⟨i_v1a, i_v1b⟩ ⟨oa_x30, by first | omega | decide⟩ ⟨i_v3a, i_v3b⟩ ⟨i_v4a, i_v4b⟩ ⟨i_v5a, i_v5b⟩ ⟨i_v6a, i_v6b⟩ ⟨i_v7a, i_v7b⟩ ⟨i_v8a, i_v8b⟩ ⟨i_v12a, i_v12b⟩ ⟨i_v16a, i_v16b⟩ ⟨i_v17a, i_v17b⟩ H.size) (cwV 0 hts g_X12_condition_3_4 rfl rfl rfl (by decide +kernel) ⟨Nat.le_of_ble_eq_true rfl, Nat.le_of_ble_eq_true rfl⟩) (pv_PV12 hPc hKc hDc (q0 := 0) rfl) rfl rfl hl.1 rfl (lv_room (Nat.le_of_ble_eq_true rfl)) dX12_condition_5 ⟨Nat.le_of_ble_eq_true rfl, Nat.le_of_ble_eq_true rfl⟩) hS (fun q _ h => hFc q h) hFc (fun u t H1 locs ht hvm hwra35 hB hz1 hk1 hS => ?_)
    obtain ⟨hP1, hK1, hD1⟩ := hB
    rw [ht] at hP1
    obtain ⟨hP2, hD2⟩ := va_join (wr := (wd_bfe486e6 h1 g0 f18 h2 g1 fn32 h3 g2 fn33 h4 g3 fn34)) (w1 := (wd_171f232f h0 v0 h1 v1 x29 x30 x31 h2 h3 h4 r0 r1 r2 r3 v3 v4 r4 r5 r6 r7 v5 r8 r9 v6 v7 r10 r11 v8 v9 r12 v10 v11 r13 v12 w13 r14 v14 v15 r15 r16 r17 r18 r19 r20 v16 r21 r22 r23 v17)) hP hD [0] [1, 2, 3, 4] rfl rfl (by decide) (by decide) hk1 hFc hP1 hD1
    clear hP hD hPc hDc hKc hFc hP1 hK1 hD1 hk1 hz1
    generalize H1 = H at hP2 hS ⊢
    have hP := hP2.sub (ws' := (wd_d906eaf1 h0 v0 h1 v1 x29 x30 x31 h2 h3 h4 r0 r1 r2 r3 v3 v4 r4 r5 r6 r7 v5 r8 r9 v6 v7 r10 r11 v8 v9 r12 v10 v11 r13 v12 w13 r14 v14 v15 r15 r16 r17 r18 r19 r20 v16 r21 r22 r23 v17 h1 g0 f18 h2 g1 fn32 h3 g2 fn33 h4 g3 fn34)) [4, 0, 1, 2, 3] rfl
    have hD := hD2.sub (ws' := (wd_d906eaf1 h0 v0 h1 v1 x29 x30 x31 h2 h3 h4 r0 r1 r2 r3 v3 v4 r4 r5 r6 r7 v5 r8 r9 v6 v7 r10 r11 v8 v9 r12 v10 v11 r13 v12 w13 r14 v14 v15 r15 r16 r17 r18 r19 r20 v16 r21 r22 r23 v17 h1 g0 f18 h2 g1 fn32 h3 g2 fn33 h4 g3 fn34)) [4, 0, 1, 2, 3] (by decide) rfl
    clear hP2 hD2
    refine lv_aload_n hx hb dX12_condition_8 rfl (lv_at hl 0 rfl) ?_
    have hPc := hP.sub (ws' := (wd_171f232f h0 v0 h1 v1 x29 x30 x31 h2 h3 h4 r0 r1 r2 r3 v3 v4 r4 r5 r6 r7 v5 r8 r9 v6 v7 r10 r11 v8 v9 r12 v10 v11 r13 v12 w13 r14 v14 v15 r15 r16 r17 r18 r19 r20 v16 r21 r22 r23 v17)) [0] rfl
    have hDc := hD.sub (ws' := (wd_171f232f h0 v0 h1 v1 x29 x30 x31 h2 h3 h4 r0 r1 r2 r3 v3 v4 r4 r5 r6 r7 v5 r8 r9 v6 v7 r10 r11 v8 v9 r12 v10 v11 r13 v12 w13 r14 v14 v15 r15 r16 r17 r18 r19 r20 v16 r21 r22 r23 v17)) [0] (by decide) rfl
    have hKc := hK.sub (tys' := []) [] rfl
    have hFc := va_free (wc := (wd_171f232f h0 v0 h1 v1 x29 x30 x31 h2 h3 h4 r0 r1 r2 r3 v3 v4 r4 r5 r6 r7 v5 r8 r9 v6 v7 r10 r11 v8 v9 r12 v10 v11 r13 v12 w13 r14 v14 v15 r15 r16 r17 r18 r19 r20 v16 r21 r22 r23 v17)) hD hS hA [0] rfl
    refine va_callv (va_runV (As := []) (rest := []) ⟨hx, hb, hml, hown, hts⟩ (k_X12_goOnOr_1 l dC dI h0 v0 h1 v1 x29 x30 x31 h2 h3 h4 r0 r1 r2 r3 v3 v4 r4 r5 r6 r7 v5 r8 r9 v6 v7 r10 r11 v8 v9 r12 v10 v11 r13 v12 w13 r14 v14 v15 r15 r16 r17 r18 r19 r20 v16 r21 r22 r23 v17 ⟨i_v1a, i_v1b⟩ ⟨oa_x30, by first | omega | decide⟩ ⟨i_v3a, i_v3b⟩ ⟨i_v4a, i_v4b⟩ ⟨i_v5a, i_v5b⟩ ⟨i_v6a, i_v6b⟩ ⟨i_v7a, i_v7b⟩ ⟨i_v8a, i_v8b⟩ ⟨i_v12a, i_v12b⟩ ⟨i_v16a, i_v16b⟩ ⟨i_v17a, i_v17b⟩ H.size) (cwV 0 hts g_X12_condition_3_3 rfl rfl rfl (by decide +kernel) ⟨Nat.le_of_ble_eq_true rfl, Nat.le_of_ble_eq_true rfl⟩) (pv_PV12 hPc hKc hDc (q0 := 0) rfl) rfl rfl hl.1 rfl (lv_room (Nat.le_of_ble_eq_true rfl)) dX12_condition_9 ⟨Nat.le_of_ble_eq_true rfl, Nat.le_of_ble_eq_true rfl⟩) hS (fun q _ h => hFc q h) hFc (fun u t H1 locs ht hvm hwra36 hB hz1 hk1 hS => ?_)
    obtain ⟨hP1, hK1, hD1⟩ := hB
    rw [ht] at hP1
    obtain ⟨hP2, hD2⟩ := va_join (wr := (wd_bfe486e6 h1 g0 f18 h2 g1 fn32 h3 g2 fn33 h4 g3 fn34)) (w1 := (wd_171f232f h0 v0 h1 v1 x29 x30 x31 h2 h3 h4 r0 r1 r2 r3 v3 v4 r4 r5 r6 r7 v5 r8 r9 v6 v7 r10 r11 v8 v9 r12 v10 v11 r13 v12 w13 r14 v14 v15 r15 r16 r17 r18 r19 r20 v16 r21 r22 r23 v17)) hP hD [0] [1, 2, 3, 4] rfl rfl (by decide) (by decide) hk1 hFc hP1 hD1
    clear hP hD hPc hDc hKc hFc hP1 hK1 hD1 hk1 hz1
    generalize H1 = H at hP2 hS ⊢
    have hP := hP2.sub (ws' := (wd_d906eaf1 h0 v0 h1 v1 x29 x30 x31 h2 h3 h4 r0 r1 r2 r3 v3 v4 r4 r5 r6 r7 v5 r8 r9 v6 v7 r10 r11 v8 v9 r12 v10 v11 r13 v12 w13 r14 v14 v15 r15 r16 r17 r18 r19 r20 v16 r21 r22 r23 v17 h1 g0 f18 h2 g1 fn32 h3 g2 fn33 h4 g3 fn34)) [4, 0, 1, 2, 3] rfl
    have hD := hD2.sub (ws' := (wd_d906eaf1 h0 v0 h1 v1 x29 x30 x31 h2 h3 h4 r0 r1 r2 r3 v3 v4 r4 r5 r6 r7 v5 r8 r9 v6 v7 r10 r11 v8 v9 r12 v10 v11 r13 v12 w13 r14 v14 v15 r15 r16 r17 r18 r19 r20 v16 r21 r22 r23 v17 h1 g0 f18 h2 g1 fn32 h3 g2 fn33 h4 g3 fn34)) [4, 0, 1, 2, 3] (by decide) rfl
    clear hP2 hD2
    subst hQ
    have hP9 := hP.sub (ws' := (wd_d906eaf1 h0 v0 h1 v1 x29 x30 x31 h2 h3 h4 r0 r1 r2 r3 v3 v4 r4 r5 r6 r7 v5 r8 r9 v6 v7 r10 r11 v8 v9 r12 v10 v11 r13 v12 w13 r14 v14 v15 r15 r16 r17 r18 r19 r20 v16 r21 r22 r23 v17 h1 g0 f18 h2 g1 fn32 h3 g2 fn33 h4 g3 fn34)) [0, 1, 2, 3, 4] rfl
    have hD9 := hD.sub (ws' := (wd_d906eaf1 h0 v0 h1 v1 x29 x30 x31 h2 h3 h4 r0 r1 r2 r3 v3 v4 r4 r5 r6 r7 v5 r8 r9 v6 v7 r10 r11 v8 v9 r12 v10 v11 r13 v12 w13 r14 v14 v15 r15 r16 r17 r18 r19 r20 v16 r21 r22 r23 v17 h1 g0 f18 h2 g1 fn32 h3 g2 fn33 h4 g3 fn34)) [0, 1, 2, 3, 4] (by decide) rfl
    have hK9 := hK.sub (tys' := []) [] rfl
    exact W.vret hx hb hr (fun t ht hW => ⟨⟨(), rfl, trivial, Or.inr (⟨x29, x30, x31, fn32, fn33, fn34, oa_x29, ob_x29, oa_x30, ob_x30, by constructor <;> omega, by exact hgF, by first | (apply pg_con.ok <;> first | assumption | omega) | (apply pg_con.no2 <;> first | assumption | omega) | (apply pg_con.no <;> first | assumption | omega), by rw [ht]; exact hP9, va_K.moved hW.alike hK9, hD9⟩)⟩, hS.F ht⟩) hS.2.2 dX12_condition_12
def q_X12_opens_4 : List Cond := .code yX12_opens cX12_opens 1 none :: (([.fieldLink RX12 125 "LeftArgumentsModel" "deep" "I", .fieldLink RX12 112 "LeftArgumentsModel" "at" "I"] : List Cond) ++ wsX120)
set_option maxHeartbeats 4000000 in
set_option maxRecDepth 100000 in
theorem k_X12_opens_4 (l : Launch) (dC : Nat → ClassId) (dI : Nat → Nat → Nat) (h0 : Nat) (v0 : Int32) (r0 : Nat) (v1 : Int32) (v2 : Int32) (r1 : Nat) (r2 : Nat) (r3 : Nat) (r4 : Nat) (r5 : Nat) (r6 : Nat) (r7 : Nat) (v3 : Int32) (v4 : Int32) (r8 : Nat) (r9 : Nat) (r10 : Nat) (r11 : Nat) (v5 : Int32) (r12 : Nat) (r13 : Nat) (v6 : Int32) (v7 : Int32) (r14 : Nat) (r15 : Nat) (v8 : Int32) (v9 : Int32) (r16 : Nat) (v10 : Int32) (v11 : Int32) (r17 : Nat) (v12 : Int32) (w13 : Int64) (r18 : Nat) (v14 : Int32) (v15 : Int32) (r19 : Nat) (r20 : Nat) (r21 : Nat) (r22 : Nat) (r23 : Nat) (r24 : Nat) (v16 : Int32) (r25 : Nat) (r26 : Nat) (r27 : Nat) (v17 : Int32) (i_v1 : 0 ≤ v1.toInt ∧ v1.toInt ≤ 240) (i_v2 : 0 ≤ v2.toInt ∧ v2.toInt ≤ 239) (i_v3 : 0 ≤ v3.toInt ∧ v3.toInt ≤ 4) (i_v4 : 0 ≤ v4.toInt ∧ v4.toInt ≤ 4) (i_v5 : 0 ≤ v5.toInt ∧ v5.toInt ≤ 8) (i_v6 : 0 ≤ v6.toInt ∧ v6.toInt ≤ 8) (i_v7 : 0 ≤ v7.toInt ∧ v7.toInt ≤ 1) (i_v8 : -1 ≤ v8.toInt ∧ v8.toInt ≤ 3) (i_v12 : 0 ≤ v12.toInt ∧ v12.toInt ≤ 40) (i_v16 : 0 ≤ v16.toInt ∧ v16.toInt ≤ 10) (i_v17 : 0 ≤ v17.toInt ∧ v17.toInt ≤ 1) (sz : Nat) : Met l yX12_opens q_X12_opens_4 ({ frames := 0, cells := 0, slots := 0, locals := 0 }) (va_Pc [.ref h0] (fun U => U.heap.size = sz ∧ va_P (dC, dI) vwCl (wd_171f232f h0 v0 r0 v1 v2 (-1) 2 r1 r2 r3 r4 r5 r6 r7 v3 v4 r8 r9 r10 r11 v5 r12 r13 v6 v7 r14 r15 v8 v9 r16 v10 v11 r17 v12 w13 r18 v14 v15 r19 r20 r21 r22 r23 r24 v16 r25 r26 r27 v17) U.heap ∧ va_K (dC, dI) vwCl [] U ∧ va_D (fun _ => True) (wd_171f232f h0 v0 r0 v1 v2 (-1) 2 r1 r2 r3 r4 r5 r6 r7 v3 v4 r8 r9 r10 r11 v5 r12 r13 v6 v7 r14 r15 v8 v9 r16 v10 v11 r17 v12 w13 r18 v14 v15 r19 r20 r21 r22 r23 r24 v16 r25 r26 r27 v17))) (va_Qv (fun (_ : Unit) => True) (fun (_ : Unit) (t : State) => (∃ (o_h0_3 : Int32), 1 ≤ o_h0_3.toInt ∧ o_h0_3.toInt ≤ 240 ∧ (o_h0_3.toInt = v2.toInt + 1) ∧ va_P (dC, dI) vwCl (wd_171f232f h0 v0 r0 v1 o_h0_3 (-1) 3 r1 r2 r3 r4 r5 r6 r7 v3 v4 r8 r9 r10 r11 v5 r12 r13 v6 v7 r14 r15 v8 v9 r16 v10 v11 r17 v12 w13 r18 v14 v15 r19 r20 r21 r22 r23 r24 v16 r25 r26 r27 v17) t.heap ∧ va_K (dC, dI) vwCl [] t ∧ va_D (va_A (wd_171f232f h0 v0 r0 v1 v2 (-1) 2 r1 r2 r3 r4 r5 r6 r7 v3 v4 r8 r9 r10 r11 v5 r12 r13 v6 v7 r14 r15 v8 v9 r16 v10 v11 r17 v12 w13 r18 v14 v15 r19 r20 r21 r22 r23 r24 v16 r25 r26 r27 v17) sz) (wd_171f232f h0 v0 r0 v1 o_h0_3 (-1) 3 r1 r2 r3 r4 r5 r6 r7 v3 v4 r8 r9 r10 r11 v5 r12 r13 v6 v7 r14 r15 v8 v9 r16 v10 v11 r17 v12 w13 r18 v14 v15 r19 r20 r21 r22 r23 r24 v16 r25 r26 r27 v17))) (va_A (wd_171f232f h0 v0 r0 v1 v2 (-1) 2 r1 r2 r3 r4 r5 r6 r7 v3 v4 r8 r9 r10 r11 v5 r12 r13 v6 v7 r14 r15 v8 v9 r16 v10 v11 r17 v12 w13 r18 v14 v15 r19 r20 r21 r22 r23 r24 v16 r25 r26 r27 v17) sz)) 0 0 (va_A (wd_171f232f h0 v0 r0 v1 v2 (-1) 2 r1 r2 r3 r4 r5 r6 r7 v3 v4 r8 r9 r10 r11 v5 r12 r13 v6 v7 r14 r15 v8 v9 r16 v10 v11 r17 v12 w13 r18 v14 v15 r19 r20 r21 r22 r23 r24 v16 r25 r26 r27 v17) sz) := by
  refine Met.ofW (cc := cX12_opens) (maxL := 1) (ret := none) (by decide) rfl ?_
  intro p e s m args below meth c s₁ B hml hv
  obtain ⟨i_v1a, i_v1b⟩ := i_v1
  obtain ⟨i_v2a, i_v2b⟩ := i_v2
  obtain ⟨i_v3a, i_v3b⟩ := i_v3
  obtain ⟨i_v4a, i_v4b⟩ := i_v4
  obtain ⟨i_v5a, i_v5b⟩ := i_v5
  obtain ⟨i_v6a, i_v6b⟩ := i_v6
  obtain ⟨i_v7a, i_v7b⟩ := i_v7
  obtain ⟨i_v8a, i_v8b⟩ := i_v8
  obtain ⟨i_v12a, i_v12b⟩ := i_v12
  obtain ⟨i_v16a, i_v16b⟩ := i_v16
  obtain ⟨i_v17a, i_v17b⟩ := i_v17
  obtain ⟨rfl, hsz, hP, hK, hD0⟩ := hv
  have hx := B.exec
  have hb := B.bytes
  have hr := B.returns
  have hts := atoms_spec (ws := q_X12_opens_4) B.pre
  have hown : s.vm.findClass RX12 = some m.cls := findClass_of_methodNamed B.named
  have hlocks := B.notSynchronized
  subst hsz
  have hD := hD0.self (sz := s.heap.size)
  generalize hAe : va_A (wd_171f232f h0 v0 r0 v1 v2 (-1) 2 r1 r2 r3 r4 r5 r6 r7 v3 v4 r8 r9 r10 r11 v5 r12 r13 v6 v7 r14 r15 v8 v9 r16 v10 v11 r17 v12 w13 r18 v14 v15 r19 r20 r21 r22 r23 r24 v16 r25 r26 r27 v17) s.heap.size = A at hD ⊢
  have hA : ∀ q : Nat, s.heap.size ≤ q → A q := fun q h => by rw [← hAe]; exact Or.inr h
  have hS : va_S A s.heap s.heap [] := va_S.rf
  generalize hQ : (MQ below _ _ s 0 0 A) = Q
  have hl := lv_entry ([.ref h0]) (n := 1) (Nat.le_of_ble_eq_true rfl)
  rw [lg_entry_eq]
  generalize (lg_sl ([.ref h0]) ++ List.replicate (1 - (lg_sl ([.ref h0])).length) Slot.unset).toArray = ls at hl ⊢
  have hl : lv_has ls 1 [(0, .ref h0)] := hl
  obtain ⟨H, hH⟩ : ∃ H : Heap, H = s.heap := ⟨_, rfl⟩
  obtain ⟨locs, hlocs⟩ : ∃ y : List Loc, y = [] := ⟨_, rfl⟩
  have hS : va_S A s.heap H locs := by rw [hH, hlocs]; exact va_S.rf
  have hP : va_P (dC, dI) vwCl (wd_171f232f h0 v0 r0 v1 v2 (-1) 2 r1 r2 r3 r4 r5 r6 r7 v3 v4 r8 r9 r10 r11 v5 r12 r13 v6 v7 r14 r15 v8 v9 r16 v10 v11 r17 v12 w13 r18 v14 v15 r19 r20 r21 r22 r23 r24 v16 r25 r26 r27 v17) H := by rw [hH]; exact hP
  rw [← hH, ← hlocs]
  refine lv_aload_n hx hb dX12_opens_0 rfl (lv_at hl 0 rfl) ?_
  refine va_get (D := (dC, dI)) (ci := 12) (v := .int 2) (C := RX12) (T := TX12) (N := 48) hx hb hts (fun _ h => List.mem_cons_of_mem _ (List.mem_append_right _ h)) hown hK hP 0 rfl rfl 5 (by decide) (hts (.fieldLink RX12 125 "LeftArgumentsModel" "deep" "I") (List.mem_cons_of_mem _ (List.mem_append_left _ (List.mem_of_getElem? (i := 0) rfl)))) (fun _ h9 => h9) rfl dX12_opens_1 ?_
  refine lv_bipush (v := 6) hx hb dX12_opens_4 (by decide) ?_
  refine lv_icmp_ne (tgt := 13) hx hb dX12_opens_6 (by decide) (fun _ => ?_) (fun c => absurd c (by decide))
  refine lv_aload_n hx hb dX12_opens_13 rfl (lv_at hl 0 rfl) ?_
  refine lv_dup hx hb dX12_opens_14 rfl ?_
  refine va_get (D := (dC, dI)) (ci := 12) (v := .int 2) (C := RX12) (T := TX12) (N := 48) hx hb hts (fun _ h => List.mem_cons_of_mem _ (List.mem_append_right _ h)) hown hK hP 0 rfl rfl 5 (by decide) (hts (.fieldLink RX12 125 "LeftArgumentsModel" "deep" "I") (List.mem_cons_of_mem _ (List.mem_append_left _ (List.mem_of_getElem? (i := 0) rfl)))) (fun _ h9 => h9) rfl dX12_opens_15 ?_
  refine lv_iconst (v := 1) hx hb dX12_opens_18 (by decide) ?_
  refine lv_iadd hx hb dX12_opens_19 ?_
  refine lv_topi (fun tv1 etv1 => ?_)
  obtain rfl : tv1 = (3 : Int32) := etv1.trans (by first | rfl | decide)
  refine va_put (D := (dC, dI)) (ci := 12) (v := .int 3) (ty := .int) (C := RX12) (T := TX12) (N := 48) hx hb hts (fun _ h => List.mem_cons_of_mem _ (List.mem_append_right _ h)) tyX12 tyX12_ok nmX12 hown hK hP hD hS 0 rfl rfl 5 (by decide) (hts (.fieldLink RX12 125 "LeftArgumentsModel" "deep" "I") (List.mem_cons_of_mem _ (List.mem_append_left _ (List.mem_of_getElem? (i := 0) rfl)))) (fun _ h9 => h9) rfl (by decide +kernel) rfl rfl (Nat.le_of_ble_eq_true rfl) dX12_opens_20 (fun H locs hP hD hS => ?_)
  have hP : va_P (dC, dI) vwCl (wd_171f232f h0 v0 r0 v1 v2 (-1) 3 r1 r2 r3 r4 r5 r6 r7 v3 v4 r8 r9 r10 r11 v5 r12 r13 v6 v7 r14 r15 v8 v9 r16 v10 v11 r17 v12 w13 r18 v14 v15 r19 r20 r21 r22 r23 r24 v16 r25 r26 r27 v17) H := hP
  have hD : va_D A (wd_171f232f h0 v0 r0 v1 v2 (-1) 3 r1 r2 r3 r4 r5 r6 r7 v3 v4 r8 r9 r10 r11 v5 r12 r13 v6 v7 r14 r15 v8 v9 r16 v10 v11 r17 v12 w13 r18 v14 v15 r19 r20 r21 r22 r23 r24 v16 r25 r26 r27 v17) := hD
  refine lv_aload_n hx hb dX12_opens_23 rfl (lv_at hl 0 rfl) ?_
  refine lv_dup hx hb dX12_opens_24 rfl ?_
  refine va_get (D := (dC, dI)) (ci := 12) (v := .int v2) (C := RX12) (T := TX12) (N := 48) hx hb hts (fun _ h => List.mem_cons_of_mem _ (List.mem_append_right _ h)) hown hK hP 0 rfl rfl 3 (by decide) (hts (.fieldLink RX12 112 "LeftArgumentsModel" "at" "I") (List.mem_cons_of_mem _ (List.mem_append_left _ (List.mem_of_getElem? (i := 1) rfl)))) (fun _ h9 => h9) rfl dX12_opens_25 ?_
  refine lv_iconst (v := 1) hx hb dX12_opens_28 (by decide) ?_
  refine lv_iadd hx hb dX12_opens_29 ?_
  refine lv_topi (fun t2 et2 => ?_)
  have gt2 : t2.toInt = v2.toInt + 1 := pv_add (a := v2.toInt) (b := 1) et2 rfl (by decide) (by omega) (by omega)
  refine va_put (D := (dC, dI)) (ci := 12) (v := .int t2) (ty := .int) (C := RX12) (T := TX12) (N := 48) hx hb hts (fun _ h => List.mem_cons_of_mem _ (List.mem_append_right _ h)) tyX12 tyX12_ok nmX12 hown hK hP hD hS 0 rfl rfl 3 (by decide) (hts (.fieldLink RX12 112 "LeftArgumentsModel" "at" "I") (List.mem_cons_of_mem _ (List.mem_append_left _ (List.mem_of_getElem? (i := 1) rfl)))) (fun _ h9 => h9) rfl (by decide +kernel) rfl rfl (Nat.le_of_ble_eq_true rfl) dX12_opens_30 (fun H locs hP hD hS => ?_)
  have hP : va_P (dC, dI) vwCl (wd_171f232f h0 v0 r0 v1 t2 (-1) 3 r1 r2 r3 r4 r5 r6 r7 v3 v4 r8 r9 r10 r11 v5 r12 r13 v6 v7 r14 r15 v8 v9 r16 v10 v11 r17 v12 w13 r18 v14 v15 r19 r20 r21 r22 r23 r24 v16 r25 r26 r27 v17) H := hP
  have hD : va_D A (wd_171f232f h0 v0 r0 v1 t2 (-1) 3 r1 r2 r3 r4 r5 r6 r7 v3 v4 r8 r9 r10 r11 v5 r12 r13 v6 v7 r14 r15 v8 v9 r16 v10 v11 r17 v12 w13 r18 v14 v15 r19 r20 r21 r22 r23 r24 v16 r25 r26 r27 v17) := hD
  subst hQ
  have hP9 := hP.sub (ws' := (wd_171f232f h0 v0 r0 v1 t2 (-1) 3 r1 r2 r3 r4 r5 r6 r7 v3 v4 r8 r9 r10 r11 v5 r12 r13 v6 v7 r14 r15 v8 v9 r16 v10 v11 r17 v12 w13 r18 v14 v15 r19 r20 r21 r22 r23 r24 v16 r25 r26 r27 v17)) [0] rfl
  have hD9 := hD.sub (ws' := (wd_171f232f h0 v0 r0 v1 t2 (-1) 3 r1 r2 r3 r4 r5 r6 r7 v3 v4 r8 r9 r10 r11 v5 r12 r13 v6 v7 r14 r15 v8 v9 r16 v10 v11 r17 v12 w13 r18 v14 v15 r19 r20 r21 r22 r23 r24 v16 r25 r26 r27 v17)) [0] (by decide) rfl
  have hK9 := hK.sub (tys' := []) [] rfl
  exact W.vret hx hb hr (fun t ht hW => ⟨⟨(), rfl, trivial, ⟨t2, by first | omega | decide, by first | omega | decide, by omega, by rw [ht]; exact hP9, va_K.moved hW.alike hK9, hD9⟩⟩, hS.F ht⟩) hS.2.2 dX12_opens_33
def q_X12_closes_8 : List Cond := .code yX12_closes cX12_closes 2 none :: (([.fieldLink RX12 119 "LeftArgumentsModel" "wrong" "I", .code yX12_look cX12_look 1 (some .int), .code yX12_here cX12_here 1 (some .int), .fieldLink RX12 112 "LeftArgumentsModel" "at" "I", .fieldLink RX12 109 "LeftArgumentsModel" "size" "I", .fieldLink RX12 9 "LeftArgumentsModel" "tape" "[I", .initialized RX12, .instanceMethod yX12_here, .selects RX12 yX12_here yX12_here, .methodLink RX12 115 yX12_here, .instanceMethod yX12_look, .selects RX12 yX12_look yX12_look, .methodLink RX12 131 yX12_look, .code yX12_bad cX12_bad 1 none, .instanceMethod yX12_bad, .selects RX12 yX12_bad yX12_bad, .methodLink RX12 128 yX12_bad, .fieldLink RX12 125 "LeftArgumentsModel" "deep" "I"] : List Cond) ++ wsX120)
set_option maxRecDepth 20000 in
theorem g_X12_closes_8_0 : GoodIn q_X12_closes_8 (wsV RX12 131 RX12 yX12_look q_X12_look) := goodIn_app (goodIn_r _ [13, 11, 12, 7] rfl (by decide +kernel)) (goodIn_ca (goodIn_r (.code yX12_look cX12_look 1 (some .int) :: [.code yX12_here cX12_here 1 (some .int), .fieldLink RX12 112 "LeftArgumentsModel" "at" "I", .fieldLink RX12 109 "LeftArgumentsModel" "size" "I", .fieldLink RX12 9 "LeftArgumentsModel" "tape" "[I", .initialized RX12, .instanceMethod yX12_here, .selects RX12 yX12_here yX12_here, .methodLink RX12 115 yX12_here]) [2, 3, 4, 5, 6, 7, 8, 9, 10] rfl (by decide +kernel)) (goodIn_sub (fun _ h => List.mem_cons_of_mem _ (List.mem_append_right _ h)) gwX12))
set_option maxRecDepth 20000 in
theorem g_X12_closes_8_1 : GoodIn q_X12_closes_8 (wsV RX12 128 RX12 yX12_bad q_X12_bad) := goodIn_app (goodIn_r _ [17, 15, 16, 7] rfl (by decide +kernel)) (goodIn_ca (goodIn_r (.code yX12_bad cX12_bad 1 none :: [.fieldLink RX12 119 "LeftArgumentsModel" "wrong" "I", .fieldLink RX12 112 "LeftArgumentsModel" "at" "I"]) [14, 1, 4] rfl (by decide +kernel)) (goodIn_sub (fun _ h => List.mem_cons_of_mem _ (List.mem_append_right _ h)) gwX12))
set_option maxHeartbeats 4000000 in
set_option maxRecDepth 100000 in
theorem k_X12_closes_8 (l : Launch) (dC : Nat → ClassId) (dI : Nat → Nat → Nat) (h0 : Nat) (h1 : Nat) (v0 : Int32) (v1 : Int32) (v2 : Int32) (r0 : Nat) (r1 : Nat) (r2 : Nat) (r3 : Nat) (r4 : Nat) (r5 : Nat) (r6 : Nat) (v3 : Int32) (v4 : Int32) (r7 : Nat) (r8 : Nat) (r9 : Nat) (r10 : Nat) (v5 : Int32) (r11 : Nat) (r12 : Nat) (v6 : Int32) (v7 : Int32) (r13 : Nat) (r14 : Nat) (v8 : Int32) (v9 : Int32) (r15 : Nat) (v10 : Int32) (v11 : Int32) (r16 : Nat) (v12 : Int32) (w13 : Int64) (r17 : Nat) (v14 : Int32) (v15 : Int32) (r18 : Nat) (r19 : Nat) (r20 : Nat) (r21 : Nat) (r22 : Nat) (r23 : Nat) (v16 : Int32) (r24 : Nat) (r25 : Nat) (r26 : Nat) (v17 : Int32) (g0 : ClassId) (f18 : Nat → Int32) (i_v1 : 0 ≤ v1.toInt ∧ v1.toInt ≤ 240) (i_v2 : 0 ≤ v2.toInt ∧ v2.toInt ≤ 240) (i_v3 : 0 ≤ v3.toInt ∧ v3.toInt ≤ 4) (i_v4 : 0 ≤ v4.toInt ∧ v4.toInt ≤ 4) (i_v5 : 0 ≤ v5.toInt ∧ v5.toInt ≤ 8) (i_v6 : 0 ≤ v6.toInt ∧ v6.toInt ≤ 8) (i_v7 : 0 ≤ v7.toInt ∧ v7.toInt ≤ 1) (i_v8 : -1 ≤ v8.toInt ∧ v8.toInt ≤ 3) (i_v12 : 0 ≤ v12.toInt ∧ v12.toInt ≤ 40) (i_v16 : 0 ≤ v16.toInt ∧ v16.toInt ≤ 10) (i_v17 : 0 ≤ v17.toInt ∧ v17.toInt ≤ 1) (ia_f18 : (∀ j, 0 ≤ (f18 j).toInt ∧ (f18 j).toInt ≤ 255)) (sz : Nat) : Met l yX12_closes q_X12_closes_8 ({ frames := 2, cells := 0, slots := 0, locals := 40 }) (va_Pc [.ref h0, .int 93] (fun U => U.heap.size = sz ∧ va_P (dC, dI) vwCl (wd_f4cd022e h0 v0 h1 v1 v2 (-1) 3 r0 r1 r2 r3 r4 r5 r6 v3 v4 r7 r8 r9 r10 v5 r11 r12 v6 v7 r13 r14 v8 v9 r15 v10 v11 r16 v12 w13 r17 v14 v15 r18 r19 r20 r21 r22 r23 v16 r24 r25 r26 v17 h1 g0 f18) U.heap ∧ va_K (dC, dI) vwCl [(g0, .int)] U ∧ va_D (fun _ => True) (wd_f4cd022e h0 v0 h1 v1 v2 (-1) 3 r0 r1 r2 r3 r4 r5 r6 v3 v4 r7 r8 r9 r10 v5 r11 r12 v6 v7 r13 r14 v8 v9 r15 v10 v11 r16 v12 w13 r17 v14 v15 r18 r19 r20 r21 r22 r23 v16 r24 r25 r26 v17 h1 g0 f18))) (va_Qv (fun (_ : Unit) => True) (fun (_ : Unit) (t : State) => (∃ (o_h0_3 : Int32), 1 ≤ o_h0_3.toInt ∧ o_h0_3.toInt ≤ 240 ∧ (v2.toInt + 1 ≤ o_h0_3.toInt) ∧ (pg_take f18 v1.toInt 93 v2.toInt = (true, o_h0_3.toInt)) ∧ va_P (dC, dI) vwCl (wd_f4cd022e h0 v0 h1 v1 o_h0_3 (-1) 2 r0 r1 r2 r3 r4 r5 r6 v3 v4 r7 r8 r9 r10 v5 r11 r12 v6 v7 r13 r14 v8 v9 r15 v10 v11 r16 v12 w13 r17 v14 v15 r18 r19 r20 r21 r22 r23 v16 r24 r25 r26 v17 h1 g0 f18) t.heap ∧ va_K (dC, dI) vwCl [] t ∧ va_D (va_A (wd_f4cd022e h0 v0 h1 v1 v2 (-1) 3 r0 r1 r2 r3 r4 r5 r6 v3 v4 r7 r8 r9 r10 v5 r11 r12 v6 v7 r13 r14 v8 v9 r15 v10 v11 r16 v12 w13 r17 v14 v15 r18 r19 r20 r21 r22 r23 v16 r24 r25 r26 v17 h1 g0 f18) sz) (wd_f4cd022e h0 v0 h1 v1 o_h0_3 (-1) 2 r0 r1 r2 r3 r4 r5 r6 v3 v4 r7 r8 r9 r10 v5 r11 r12 v6 v7 r13 r14 v8 v9 r15 v10 v11 r16 v12 w13 r17 v14 v15 r18 r19 r20 r21 r22 r23 v16 r24 r25 r26 v17 h1 g0 f18)) ∨ (∃ (o_h0_3 : Int32) (o_h0_4 : Int32), 1 ≤ o_h0_3.toInt ∧ o_h0_3.toInt ≤ 241 ∧ 0 ≤ o_h0_4.toInt ∧ o_h0_4.toInt ≤ 240 ∧ (v2.toInt + 1 ≤ o_h0_3.toInt) ∧ (pg_take f18 v1.toInt 93 v2.toInt = (false, o_h0_4.toInt)) ∧ va_P (dC, dI) vwCl (wd_f4cd022e h0 v0 h1 v1 o_h0_3 o_h0_4 2 r0 r1 r2 r3 r4 r5 r6 v3 v4 r7 r8 r9 r10 v5 r11 r12 v6 v7 r13 r14 v8 v9 r15 v10 v11 r16 v12 w13 r17 v14 v15 r18 r19 r20 r21 r22 r23 v16 r24 r25 r26 v17 h1 g0 f18) t.heap ∧ va_K (dC, dI) vwCl [] t ∧ va_D (va_A (wd_f4cd022e h0 v0 h1 v1 v2 (-1) 3 r0 r1 r2 r3 r4 r5 r6 v3 v4 r7 r8 r9 r10 v5 r11 r12 v6 v7 r13 r14 v8 v9 r15 v10 v11 r16 v12 w13 r17 v14 v15 r18 r19 r20 r21 r22 r23 v16 r24 r25 r26 v17 h1 g0 f18) sz) (wd_f4cd022e h0 v0 h1 v1 o_h0_3 o_h0_4 2 r0 r1 r2 r3 r4 r5 r6 v3 v4 r7 r8 r9 r10 v5 r11 r12 v6 v7 r13 r14 v8 v9 r15 v10 v11 r16 v12 w13 r17 v14 v15 r18 r19 r20 r21 r22 r23 v16 r24 r25 r26 v17 h1 g0 f18))) (va_A (wd_f4cd022e h0 v0 h1 v1 v2 (-1) 3 r0 r1 r2 r3 r4 r5 r6 v3 v4 r7 r8 r9 r10 v5 r11 r12 v6 v7 r13 r14 v8 v9 r15 v10 v11 r16 v12 w13 r17 v14 v15 r18 r19 r20 r21 r22 r23 v16 r24 r25 r26 v17 h1 g0 f18) sz)) 0 0 (va_A (wd_f4cd022e h0 v0 h1 v1 v2 (-1) 3 r0 r1 r2 r3 r4 r5 r6 v3 v4 r7 r8 r9 r10 v5 r11 r12 v6 v7 r13 r14 v8 v9 r15 v10 v11 r16 v12 w13 r17 v14 v15 r18 r19 r20 r21 r22 r23 v16 r24 r25 r26 v17 h1 g0 f18) sz) := by
  refine Met.ofW (cc := cX12_closes) (maxL := 2) (ret := none) (by decide) rfl ?_
  intro p e s m args below meth c s₁ B hml hv
  obtain ⟨i_v1a, i_v1b⟩ := i_v1
  obtain ⟨i_v2a, i_v2b⟩ := i_v2
  obtain ⟨i_v3a, i_v3b⟩ := i_v3
  obtain ⟨i_v4a, i_v4b⟩ := i_v4
  obtain ⟨i_v5a, i_v5b⟩ := i_v5
  obtain ⟨i_v6a, i_v6b⟩ := i_v6
  obtain ⟨i_v7a, i_v7b⟩ := i_v7
  obtain ⟨i_v8a, i_v8b⟩ := i_v8
  obtain ⟨i_v12a, i_v12b⟩ := i_v12
  obtain ⟨i_v16a, i_v16b⟩ := i_v16
  obtain ⟨i_v17a, i_v17b⟩ := i_v17
  obtain ⟨rfl, hsz, hP, hK, hD0⟩ := hv
  have hx := B.exec
  have hb := B.bytes
  have hr := B.returns
  have hts := atoms_spec (ws := q_X12_closes_8) B.pre
  have hown : s.vm.findClass RX12 = some m.cls := findClass_of_methodNamed B.named
  have hlocks := B.notSynchronized
  subst hsz
  have hD := hD0.self (sz := s.heap.size)
  generalize hAe : va_A (wd_f4cd022e h0 v0 h1 v1 v2 (-1) 3 r0 r1 r2 r3 r4 r5 r6 v3 v4 r7 r8 r9 r10 v5 r11 r12 v6 v7 r13 r14 v8 v9 r15 v10 v11 r16 v12 w13 r17 v14 v15 r18 r19 r20 r21 r22 r23 v16 r24 r25 r26 v17 h1 g0 f18) s.heap.size = A at hD ⊢
  have hA : ∀ q : Nat, s.heap.size ≤ q → A q := fun q h => by rw [← hAe]; exact Or.inr h
  have hS : va_S A s.heap s.heap [] := va_S.rf
  generalize hQ : (MQ below _ _ s 0 0 A) = Q
  have hl := lv_entry ([.ref h0, .int 93]) (n := 2) (Nat.le_of_ble_eq_true rfl)
  rw [lg_entry_eq]
  generalize (lg_sl ([.ref h0, .int 93]) ++ List.replicate (2 - (lg_sl ([.ref h0, .int 93])).length) Slot.unset).toArray = ls at hl ⊢
  have hl : lv_has ls 2 [(0, .ref h0), (1, .int 93)] := hl
  obtain ⟨H, hH⟩ : ∃ H : Heap, H = s.heap := ⟨_, rfl⟩
  obtain ⟨locs, hlocs⟩ : ∃ y : List Loc, y = [] := ⟨_, rfl⟩
  have hS : va_S A s.heap H locs := by rw [hH, hlocs]; exact va_S.rf
  have hP : va_P (dC, dI) vwCl (wd_f4cd022e h0 v0 h1 v1 v2 (-1) 3 r0 r1 r2 r3 r4 r5 r6 v3 v4 r7 r8 r9 r10 v5 r11 r12 v6 v7 r13 r14 v8 v9 r15 v10 v11 r16 v12 w13 r17 v14 v15 r18 r19 r20 r21 r22 r23 v16 r24 r25 r26 v17 h1 g0 f18) H := by rw [hH]; exact hP
  rw [← hH, ← hlocs]
  refine lv_aload_n hx hb dX12_closes_0 rfl (lv_at hl 0 rfl) ?_
  refine va_get (D := (dC, dI)) (ci := 12) (v := .int (-1)) (C := RX12) (T := TX12) (N := 48) hx hb hts (fun _ h => List.mem_cons_of_mem _ (List.mem_append_right _ h)) hown hK hP 0 rfl rfl 4 (by decide) (hts (.fieldLink RX12 119 "LeftArgumentsModel" "wrong" "I") (List.mem_cons_of_mem _ (List.mem_append_left _ (List.mem_of_getElem? (i := 0) rfl)))) (fun _ h9 => h9) rfl dX12_closes_1 ?_
  refine lv_iconst (v := (-1)) hx hb dX12_closes_4 (by decide) ?_
  refine lv_icmp_ne (tgt := 20) hx hb dX12_closes_5 (by decide) (fun c => absurd (by decide) c) (fun _ => ?_)
  refine lv_aload_n hx hb dX12_closes_8 rfl (lv_at hl 0 rfl) ?_
  have hPc := hP.sub (ws' := (wd_f4cd022e h0 v0 h1 v1 v2 (-1) 3 r0 r1 r2 r3 r4 r5 r6 v3 v4 r7 r8 r9 r10 v5 r11 r12 v6 v7 r13 r14 v8 v9 r15 v10 v11 r16 v12 w13 r17 v14 v15 r18 r19 r20 r21 r22 r23 v16 r24 r25 r26 v17 h1 g0 f18)) [0, 1] rfl
  have hDc := hD.sub (ws' := (wd_f4cd022e h0 v0 h1 v1 v2 (-1) 3 r0 r1 r2 r3 r4 r5 r6 v3 v4 r7 r8 r9 r10 v5 r11 r12 v6 v7 r13 r14 v8 v9 r15 v10 v11 r16 v12 w13 r17 v14 v15 r18 r19 r20 r21 r22 r23 v16 r24 r25 r26 v17 h1 g0 f18)) [0, 1] (by decide) rfl
  have hKc := hK.sub (tys' := [(g0, .int)]) [0] rfl
  have hFc := va_free (wc := (wd_f4cd022e h0 v0 h1 v1 v2 (-1) 3 r0 r1 r2 r3 r4 r5 r6 v3 v4 r7 r8 r9 r10 v5 r11 r12 v6 v7 r13 r14 v8 v9 r15 v10 v11 r16 v12 w13 r17 v14 v15 r18 r19 r20 r21 r22 r23 v16 r24 r25 r26 v17 h1 g0 f18)) hD hS hA [0, 1] rfl
  refine va_calli (va_runV (As := []) (rest := []) ⟨hx, hb, hml, hown, hts⟩ (k_X12_look l dC dI h0 h1 v0 v1 v2 ((-1)) 3 r0 r1 r2 r3 r4 r5 r6 v3 v4 r7 r8 r9 r10 v5 r11 r12 v6 v7 r13 r14 v8 v9 r15 v10 v11 r16 v12 w13 r17 v14 v15 r18 r19 r20 r21 r22 r23 v16 r24 r25 r26 v17 g0 f18 ⟨i_v1a, i_v1b⟩ ⟨i_v2a, i_v2b⟩ ⟨i_v3a, i_v3b⟩ ⟨i_v4a, i_v4b⟩ ⟨i_v5a, i_v5b⟩ ⟨i_v6a, i_v6b⟩ ⟨i_v7a, i_v7b⟩ ⟨i_v8a, i_v8b⟩ ⟨i_v12a, i_v12b⟩ ⟨i_v16a, i_v16b⟩ ⟨i_v17a, i_v17b⟩ ia_f18 H.size) (cwV 0 hts g_X12_closes_8_0 rfl rfl rfl (by decide +kernel) ⟨Nat.le_of_ble_eq_true rfl, Nat.le_of_ble_eq_true rfl⟩) (pv_PV12 hPc hKc hDc (q0 := 0) rfl) rfl rfl hl.1 rfl (lv_room (Nat.le_of_ble_eq_true rfl)) dX12_closes_9 ⟨Nat.le_of_ble_eq_true rfl, Nat.le_of_ble_eq_true rfl⟩) hS (fun q _ h => hFc q h) hFc (fun ra1 u t H1 locs ht hvm hwra1 hB hz1 hk1 hS => ?_)
  try rw [hwra1] at hB
  have hkra1_0 : (((-1) : Int32)).toInt = -1 := by decide
  have hkra1_1 : ((3 : Int32)).toInt = 3 := by decide
  rcases hB with hB | hB
  · skip
    obtain ⟨x2, oa_x2, ob_x2, pt0_ra1, pt1_ra1, pt2_ra1, pt3_ra1, pt4_ra1, pt5_ra1, pt6_ra1, hP1, hK1, hD1⟩ := hB
    rw [ht] at hP1
    obtain ⟨hP2, hD2⟩ := va_join (wr := []) (w1 := (wd_f4cd022e h0 v0 h1 v1 x2 (-1) 3 r0 r1 r2 r3 r4 r5 r6 v3 v4 r7 r8 r9 r10 v5 r11 r12 v6 v7 r13 r14 v8 v9 r15 v10 v11 r16 v12 w13 r17 v14 v15 r18 r19 r20 r21 r22 r23 v16 r24 r25 r26 v17 h1 g0 f18)) hP hD [0, 1] [] rfl rfl (by decide) (by decide) hk1 hFc hP1 hD1
    clear hP hD hPc hDc hKc hFc hP1 hK1 hD1 hk1 hz1
    generalize H1 = H at hP2 hS ⊢
    have hP : va_P (dC, dI) vwCl (wd_f4cd022e h0 v0 h1 v1 x2 (-1) 3 r0 r1 r2 r3 r4 r5 r6 v3 v4 r7 r8 r9 r10 v5 r11 r12 v6 v7 r13 r14 v8 v9 r15 v10 v11 r16 v12 w13 r17 v14 v15 r18 r19 r20 r21 r22 r23 v16 r24 r25 r26 v17 h1 g0 f18) H := hP2
    have hD : va_D A (wd_f4cd022e h0 v0 h1 v1 x2 (-1) 3 r0 r1 r2 r3 r4 r5 r6 v3 v4 r7 r8 r9 r10 v5 r11 r12 v6 v7 r13 r14 v8 v9 r15 v10 v11 r16 v12 w13 r17 v14 v15 r18 r19 r20 r21 r22 r23 v16 r24 r25 r26 v17 h1 g0 f18) := hD2
    clear hP2 hD2
    obtain rfl : ra1 = ((-1) : Int32) := pv_cs (by decide) pt0_ra1 pt1_ra1
    refine lv_iload_n hx hb dX12_closes_12 rfl (lv_at hl 1 rfl) ?_
    refine lv_icmp_eq (tgt := 20) hx hb dX12_closes_13 (by decide) (fun c => absurd c (by decide)) (fun _ => ?_)
    refine lv_aload_n hx hb dX12_closes_16 rfl (lv_at hl 0 rfl) ?_
    have hPc := hP.sub (ws' := (wd_171f232f h0 v0 h1 v1 x2 (-1) 3 r0 r1 r2 r3 r4 r5 r6 v3 v4 r7 r8 r9 r10 v5 r11 r12 v6 v7 r13 r14 v8 v9 r15 v10 v11 r16 v12 w13 r17 v14 v15 r18 r19 r20 r21 r22 r23 v16 r24 r25 r26 v17)) [0] rfl
    have hDc := hD.sub (ws' := (wd_171f232f h0 v0 h1 v1 x2 (-1) 3 r0 r1 r2 r3 r4 r5 r6 v3 v4 r7 r8 r9 r10 v5 r11 r12 v6 v7 r13 r14 v8 v9 r15 v10 v11 r16 v12 w13 r17 v14 v15 r18 r19 r20 r21 r22 r23 v16 r24 r25 r26 v17)) [0] (by decide) rfl
    have hKc := hK.sub (tys' := []) [] rfl
    have hFc := va_free (wc := (wd_171f232f h0 v0 h1 v1 x2 (-1) 3 r0 r1 r2 r3 r4 r5 r6 v3 v4 r7 r8 r9 r10 v5 r11 r12 v6 v7 r13 r14 v8 v9 r15 v10 v11 r16 v12 w13 r17 v14 v15 r18 r19 r20 r21 r22 r23 v16 r24 r25 r26 v17)) hD hS hA [0] rfl
    refine va_callv (va_runV (As := []) (rest := []) ⟨hx, hb, hml, hown, hts⟩ (k_X12_bad l dC dI h0 v0 h1 v1 x2 3 r0 r1 r2 r3 r4 r5 r6 v3 v4 r7 r8 r9 r10 v5 r11 r12 v6 v7 r13 r14 v8 v9 r15 v10 v11 r16 v12 w13 r17 v14 v15 r18 r19 r20 r21 r22 r23 v16 r24 r25 r26 v17 ⟨i_v1a, i_v1b⟩ ⟨oa_x2, ob_x2⟩ ⟨i_v3a, i_v3b⟩ ⟨i_v4a, i_v4b⟩ ⟨i_v5a, i_v5b⟩ ⟨i_v6a, i_v6b⟩ ⟨i_v7a, i_v7b⟩ ⟨i_v8a, i_v8b⟩ ⟨i_v12a, i_v12b⟩ ⟨i_v16a, i_v16b⟩ ⟨i_v17a, i_v17b⟩ H.size) (cwV 0 hts g_X12_closes_8_1 rfl rfl rfl (by decide +kernel) ⟨Nat.le_of_ble_eq_true rfl, Nat.le_of_ble_eq_true rfl⟩) (pv_PV12 hPc hKc hDc (q0 := 0) rfl) rfl rfl hl.1 rfl (lv_room (Nat.le_of_ble_eq_true rfl)) dX12_closes_17 ⟨Nat.le_of_ble_eq_true rfl, Nat.le_of_ble_eq_true rfl⟩) hS (fun q _ h => hFc q h) hFc (fun u t H1 locs ht hvm hwra3 hB hz1 hk1 hS => ?_)
    have hkra3_0 : ((3 : Int32)).toInt = 3 := by decide
    obtain ⟨x4, oa_x4, ob_x4, pt0_ra3, hP1, hK1, hD1⟩ := hB
    rw [ht] at hP1
    obtain ⟨hP2, hD2⟩ := va_join (wr := (wd_d0032b31 h1 g0 f18)) (w1 := (wd_171f232f h0 v0 h1 v1 x2 x4 3 r0 r1 r2 r3 r4 r5 r6 v3 v4 r7 r8 r9 r10 v5 r11 r12 v6 v7 r13 r14 v8 v9 r15 v10 v11 r16 v12 w13 r17 v14 v15 r18 r19 r20 r21 r22 r23 v16 r24 r25 r26 v17)) hP hD [0] [1] rfl rfl (by decide) (by decide) hk1 hFc hP1 hD1
    clear hP hD hPc hDc hKc hFc hP1 hK1 hD1 hk1 hz1
    generalize H1 = H at hP2 hS ⊢
    have hP := hP2.sub (ws' := (wd_f4cd022e h0 v0 h1 v1 x2 x4 3 r0 r1 r2 r3 r4 r5 r6 v3 v4 r7 r8 r9 r10 v5 r11 r12 v6 v7 r13 r14 v8 v9 r15 v10 v11 r16 v12 w13 r17 v14 v15 r18 r19 r20 r21 r22 r23 v16 r24 r25 r26 v17 h1 g0 f18)) [1, 0] rfl
    have hD := hD2.sub (ws' := (wd_f4cd022e h0 v0 h1 v1 x2 x4 3 r0 r1 r2 r3 r4 r5 r6 v3 v4 r7 r8 r9 r10 v5 r11 r12 v6 v7 r13 r14 v8 v9 r15 v10 v11 r16 v12 w13 r17 v14 v15 r18 r19 r20 r21 r22 r23 v16 r24 r25 r26 v17 h1 g0 f18)) [1, 0] (by decide) rfl
    clear hP2 hD2
    refine lv_aload_n hx hb dX12_closes_20 rfl (lv_at hl 0 rfl) ?_
    refine lv_dup hx hb dX12_closes_21 rfl ?_
    refine va_get (D := (dC, dI)) (ci := 12) (v := .int x2) (C := RX12) (T := TX12) (N := 48) hx hb hts (fun _ h => List.mem_cons_of_mem _ (List.mem_append_right _ h)) hown hK hP 0 rfl rfl 3 (by decide) (hts (.fieldLink RX12 112 "LeftArgumentsModel" "at" "I") (List.mem_cons_of_mem _ (List.mem_append_left _ (List.mem_of_getElem? (i := 3) rfl)))) (fun _ h9 => h9) rfl dX12_closes_22 ?_
    refine lv_iconst (v := 1) hx hb dX12_closes_25 (by decide) ?_
    refine lv_iadd hx hb dX12_closes_26 ?_
    refine lv_topi (fun t5 et5 => ?_)
    have gt5 : t5.toInt = x2.toInt + 1 := pv_add (a := x2.toInt) (b := 1) et5 rfl (by decide) (by omega) (by omega)
    refine va_put (D := (dC, dI)) (ci := 12) (v := .int t5) (ty := .int) (C := RX12) (T := TX12) (N := 48) hx hb hts (fun _ h => List.mem_cons_of_mem _ (List.mem_append_right _ h)) tyX12 tyX12_ok nmX12 hown hK hP hD hS 0 rfl rfl 3 (by decide) (hts (.fieldLink RX12 112 "LeftArgumentsModel" "at" "I") (List.mem_cons_of_mem _ (List.mem_append_left _ (List.mem_of_getElem? (i := 3) rfl)))) (fun _ h9 => h9) rfl (by decide +kernel) rfl rfl (Nat.le_of_ble_eq_true rfl) dX12_closes_27 (fun H locs hP hD hS => ?_)
    have hP : va_P (dC, dI) vwCl (wd_f4cd022e h0 v0 h1 v1 t5 x4 3 r0 r1 r2 r3 r4 r5 r6 v3 v4 r7 r8 r9 r10 v5 r11 r12 v6 v7 r13 r14 v8 v9 r15 v10 v11 r16 v12 w13 r17 v14 v15 r18 r19 r20 r21 r22 r23 v16 r24 r25 r26 v17 h1 g0 f18) H := hP
    have hD : va_D A (wd_f4cd022e h0 v0 h1 v1 t5 x4 3 r0 r1 r2 r3 r4 r5 r6 v3 v4 r7 r8 r9 r10 v5 r11 r12 v6 v7 r13 r14 v8 v9 r15 v10 v11 r16 v12 w13 r17 v14 v15 r18 r19 r20 r21 r22 r23 v16 r24 r25 r26 v17 h1 g0 f18) := hD
    refine lv_aload_n hx hb dX12_closes_30 rfl (lv_at hl 0 rfl) ?_
    refine lv_dup hx hb dX12_closes_31 rfl ?_
    refine va_get (D := (dC, dI)) (ci := 12) (v := .int 3) (C := RX12) (T := TX12) (N := 48) hx hb hts (fun _ h => List.mem_cons_of_mem _ (List.mem_append_right _ h)) hown hK hP 0 rfl rfl 5 (by decide) (hts (.fieldLink RX12 125 "LeftArgumentsModel" "deep" "I") (List.mem_cons_of_mem _ (List.mem_append_left _ (List.mem_of_getElem? (i := 17) rfl)))) (fun _ h9 => h9) rfl dX12_closes_32 ?_
    refine lv_iconst (v := 1) hx hb dX12_closes_35 (by decide) ?_
    refine lv_isub hx hb dX12_closes_36 ?_
    refine lv_topi (fun tv6 etv6 => ?_)
    obtain rfl : tv6 = (2 : Int32) := etv6.trans (by first | rfl | decide)
    refine va_put (D := (dC, dI)) (ci := 12) (v := .int 2) (ty := .int) (C := RX12) (T := TX12) (N := 48) hx hb hts (fun _ h => List.mem_cons_of_mem _ (List.mem_append_right _ h)) tyX12 tyX12_ok nmX12 hown hK hP hD hS 0 rfl rfl 5 (by decide) (hts (.fieldLink RX12 125 "LeftArgumentsModel" "deep" "I") (List.mem_cons_of_mem _ (List.mem_append_left _ (List.mem_of_getElem? (i := 17) rfl)))) (fun _ h9 => h9) rfl (by decide +kernel) rfl rfl (Nat.le_of_ble_eq_true rfl) dX12_closes_37 (fun H locs hP hD hS => ?_)
    have hP : va_P (dC, dI) vwCl (wd_f4cd022e h0 v0 h1 v1 t5 x4 2 r0 r1 r2 r3 r4 r5 r6 v3 v4 r7 r8 r9 r10 v5 r11 r12 v6 v7 r13 r14 v8 v9 r15 v10 v11 r16 v12 w13 r17 v14 v15 r18 r19 r20 r21 r22 r23 v16 r24 r25 r26 v17 h1 g0 f18) H := hP
    have hD : va_D A (wd_f4cd022e h0 v0 h1 v1 t5 x4 2 r0 r1 r2 r3 r4 r5 r6 v3 v4 r7 r8 r9 r10 v5 r11 r12 v6 v7 r13 r14 v8 v9 r15 v10 v11 r16 v12 w13 r17 v14 v15 r18 r19 r20 r21 r22 r23 v16 r24 r25 r26 v17 h1 g0 f18) := hD
    subst hQ
    have hP9 := hP.sub (ws' := (wd_f4cd022e h0 v0 h1 v1 t5 x4 2 r0 r1 r2 r3 r4 r5 r6 v3 v4 r7 r8 r9 r10 v5 r11 r12 v6 v7 r13 r14 v8 v9 r15 v10 v11 r16 v12 w13 r17 v14 v15 r18 r19 r20 r21 r22 r23 v16 r24 r25 r26 v17 h1 g0 f18)) [0, 1] rfl
    have hD9 := hD.sub (ws' := (wd_f4cd022e h0 v0 h1 v1 t5 x4 2 r0 r1 r2 r3 r4 r5 r6 v3 v4 r7 r8 r9 r10 v5 r11 r12 v6 v7 r13 r14 v8 v9 r15 v10 v11 r16 v12 w13 r17 v14 v15 r18 r19 r20 r21 r22 r23 v16 r24 r25 r26 v17 h1 g0 f18)) [0, 1] (by decide) rfl
    have hK9 := hK.sub (tys' := []) [] rfl
    exact W.vret hx hb hr (fun t ht hW => ⟨⟨(), rfl, trivial, Or.inr (⟨t5, x4, by first | omega | decide, by first | omega | decide, oa_x4, ob_x4, by omega, by first | (apply pg_take.ok <;> first | assumption | omega) | (apply pg_take.no <;> first | assumption | omega), by rw [ht]; exact hP9, va_K.moved hW.alike hK9, hD9⟩)⟩, hS.F ht⟩) hS.2.2 dX12_closes_40
  · skip
    obtain ⟨x7, oa_x7, ob_x7, pt0_ra1, pt1_ra1, pt2_ra1, pt3_ra1, pt4_ra1, pt5_ra1, pt6_ra1, pt7_ra1, hP1, hK1, hD1⟩ := hB
    rw [ht] at hP1
    obtain ⟨hP2, hD2⟩ := va_join (wr := []) (w1 := (wd_f4cd022e h0 v0 h1 v1 x7 (-1) 3 r0 r1 r2 r3 r4 r5 r6 v3 v4 r7 r8 r9 r10 v5 r11 r12 v6 v7 r13 r14 v8 v9 r15 v10 v11 r16 v12 w13 r17 v14 v15 r18 r19 r20 r21 r22 r23 v16 r24 r25 r26 v17 h1 g0 f18)) hP hD [0, 1] [] rfl rfl (by decide) (by decide) hk1 hFc hP1 hD1
    clear hP hD hPc hDc hKc hFc hP1 hK1 hD1 hk1 hz1
    generalize H1 = H at hP2 hS ⊢
    have hP : va_P (dC, dI) vwCl (wd_f4cd022e h0 v0 h1 v1 x7 (-1) 3 r0 r1 r2 r3 r4 r5 r6 v3 v4 r7 r8 r9 r10 v5 r11 r12 v6 v7 r13 r14 v8 v9 r15 v10 v11 r16 v12 w13 r17 v14 v15 r18 r19 r20 r21 r22 r23 v16 r24 r25 r26 v17 h1 g0 f18) H := hP2
    have hD : va_D A (wd_f4cd022e h0 v0 h1 v1 x7 (-1) 3 r0 r1 r2 r3 r4 r5 r6 v3 v4 r7 r8 r9 r10 v5 r11 r12 v6 v7 r13 r14 v8 v9 r15 v10 v11 r16 v12 w13 r17 v14 v15 r18 r19 r20 r21 r22 r23 v16 r24 r25 r26 v17 h1 g0 f18) := hD2
    clear hP2 hD2
    refine lv_iload_n hx hb dX12_closes_12 rfl (lv_at hl 1 rfl) ?_
    refine lv_icmp_eq (tgt := 20) hx hb dX12_closes_13 (by decide) (fun c8 => ?_) (fun c8 => ?_)
    · skip
      have fc8 : ra1.toInt = 93 := congrArg Int32.toInt c8
      refine lv_aload_n hx hb dX12_closes_20 rfl (lv_at hl 0 rfl) ?_
      refine lv_dup hx hb dX12_closes_21 rfl ?_
      refine va_get (D := (dC, dI)) (ci := 12) (v := .int x7) (C := RX12) (T := TX12) (N := 48) hx hb hts (fun _ h => List.mem_cons_of_mem _ (List.mem_append_right _ h)) hown hK hP 0 rfl rfl 3 (by decide) (hts (.fieldLink RX12 112 "LeftArgumentsModel" "at" "I") (List.mem_cons_of_mem _ (List.mem_append_left _ (List.mem_of_getElem? (i := 3) rfl)))) (fun _ h9 => h9) rfl dX12_closes_22 ?_
      refine lv_iconst (v := 1) hx hb dX12_closes_25 (by decide) ?_
      refine lv_iadd hx hb dX12_closes_26 ?_
      refine lv_topi (fun t9 et9 => ?_)
      have gt9 : t9.toInt = x7.toInt + 1 := pv_add (a := x7.toInt) (b := 1) et9 rfl (by decide) (by omega) (by omega)
      refine va_put (D := (dC, dI)) (ci := 12) (v := .int t9) (ty := .int) (C := RX12) (T := TX12) (N := 48) hx hb hts (fun _ h => List.mem_cons_of_mem _ (List.mem_append_right _ h)) tyX12 tyX12_ok nmX12 hown hK hP hD hS 0 rfl rfl 3 (by decide) (hts (.fieldLink RX12 112 "LeftArgumentsModel" "at" "I") (List.mem_cons_of_mem _ (List.mem_append_left _ (List.mem_of_getElem? (i := 3) rfl)))) (fun _ h9 => h9) rfl (by decide +kernel) rfl rfl (Nat.le_of_ble_eq_true rfl) dX12_closes_27 (fun H locs hP hD hS => ?_)
      have hP : va_P (dC, dI) vwCl (wd_f4cd022e h0 v0 h1 v1 t9 (-1) 3 r0 r1 r2 r3 r4 r5 r6 v3 v4 r7 r8 r9 r10 v5 r11 r12 v6 v7 r13 r14 v8 v9 r15 v10 v11 r16 v12 w13 r17 v14 v15 r18 r19 r20 r21 r22 r23 v16 r24 r25 r26 v17 h1 g0 f18) H := hP
      have hD : va_D A (wd_f4cd022e h0 v0 h1 v1 t9 (-1) 3 r0 r1 r2 r3 r4 r5 r6 v3 v4 r7 r8 r9 r10 v5 r11 r12 v6 v7 r13 r14 v8 v9 r15 v10 v11 r16 v12 w13 r17 v14 v15 r18 r19 r20 r21 r22 r23 v16 r24 r25 r26 v17 h1 g0 f18) := hD
      refine lv_aload_n hx hb dX12_closes_30 rfl (lv_at hl 0 rfl) ?_
      refine lv_dup hx hb dX12_closes_31 rfl ?_
      refine va_get (D := (dC, dI)) (ci := 12) (v := .int 3) (C := RX12) (T := TX12) (N := 48) hx hb hts (fun _ h => List.mem_cons_of_mem _ (List.mem_append_right _ h)) hown hK hP 0 rfl rfl 5 (by decide) (hts (.fieldLink RX12 125 "LeftArgumentsModel" "deep" "I") (List.mem_cons_of_mem _ (List.mem_append_left _ (List.mem_of_getElem? (i := 17) rfl)))) (fun _ h9 => h9) rfl dX12_closes_32 ?_
      refine lv_iconst (v := 1) hx hb dX12_closes_35 (by decide) ?_
      refine lv_isub hx hb dX12_closes_36 ?_
      refine lv_topi (fun tv10 etv10 => ?_)
      obtain rfl : tv10 = (2 : Int32) := etv10.trans (by first | rfl | decide)
      refine va_put (D := (dC, dI)) (ci := 12) (v := .int 2) (ty := .int) (C := RX12) (T := TX12) (N := 48) hx hb hts (fun _ h => List.mem_cons_of_mem _ (List.mem_append_right _ h)) tyX12 tyX12_ok nmX12 hown hK hP hD hS 0 rfl rfl 5 (by decide) (hts (.fieldLink RX12 125 "LeftArgumentsModel" "deep" "I") (List.mem_cons_of_mem _ (List.mem_append_left _ (List.mem_of_getElem? (i := 17) rfl)))) (fun _ h9 => h9) rfl (by decide +kernel) rfl rfl (Nat.le_of_ble_eq_true rfl) dX12_closes_37 (fun H locs hP hD hS => ?_)
      have hP : va_P (dC, dI) vwCl (wd_f4cd022e h0 v0 h1 v1 t9 (-1) 2 r0 r1 r2 r3 r4 r5 r6 v3 v4 r7 r8 r9 r10 v5 r11 r12 v6 v7 r13 r14 v8 v9 r15 v10 v11 r16 v12 w13 r17 v14 v15 r18 r19 r20 r21 r22 r23 v16 r24 r25 r26 v17 h1 g0 f18) H := hP
      have hD : va_D A (wd_f4cd022e h0 v0 h1 v1 t9 (-1) 2 r0 r1 r2 r3 r4 r5 r6 v3 v4 r7 r8 r9 r10 v5 r11 r12 v6 v7 r13 r14 v8 v9 r15 v10 v11 r16 v12 w13 r17 v14 v15 r18 r19 r20 r21 r22 r23 v16 r24 r25 r26 v17 h1 g0 f18) := hD
      subst hQ
      have hP9 := hP.sub (ws' := (wd_f4cd022e h0 v0 h1 v1 t9 (-1) 2 r0 r1 r2 r3 r4 r5 r6 v3 v4 r7 r8 r9 r10 v5 r11 r12 v6 v7 r13 r14 v8 v9 r15 v10 v11 r16 v12 w13 r17 v14 v15 r18 r19 r20 r21 r22 r23 v16 r24 r25 r26 v17 h1 g0 f18)) [0, 1] rfl
      have hD9 := hD.sub (ws' := (wd_f4cd022e h0 v0 h1 v1 t9 (-1) 2 r0 r1 r2 r3 r4 r5 r6 v3 v4 r7 r8 r9 r10 v5 r11 r12 v6 v7 r13 r14 v8 v9 r15 v10 v11 r16 v12 w13 r17 v14 v15 r18 r19 r20 r21 r22 r23 v16 r24 r25 r26 v17 h1 g0 f18)) [0, 1] (by decide) rfl
      have hK9 := hK.sub (tys' := []) [] rfl
      exact W.vret hx hb hr (fun t ht hW => ⟨⟨(), rfl, trivial, Or.inl ⟨t9, by first | omega | decide, by first | omega | decide, by omega, by first | (apply pg_take.ok <;> first | assumption | omega) | (apply pg_take.no <;> first | assumption | omega), by rw [ht]; exact hP9, va_K.moved hW.alike hK9, hD9⟩⟩, hS.F ht⟩) hS.2.2 dX12_closes_40
    · skip
      have fc8 : ¬ (ra1.toInt = 93) := fun h9 => c8 (Int32.toInt_inj.mp h9)
      refine lv_aload_n hx hb dX12_closes_16 rfl (lv_at hl 0 rfl) ?_
      have hPc := hP.sub (ws' := (wd_171f232f h0 v0 h1 v1 x7 (-1) 3 r0 r1 r2 r3 r4 r5 r6 v3 v4 r7 r8 r9 r10 v5 r11 r12 v6 v7 r13 r14 v8 v9 r15 v10 v11 r16 v12 w13 r17 v14 v15 r18 r19 r20 r21 r22 r23 v16 r24 r25 r26 v17)) [0] rfl
      have hDc := hD.sub (ws' := (wd_171f232f h0 v0 h1 v1 x7 (-1) 3 r0 r1 r2 r3 r4 r5 r6 v3 v4 r7 r8 r9 r10 v5 r11 r12 v6 v7 r13 r14 v8 v9 r15 v10 v11 r16 v12 w13 r17 v14 v15 r18 r19 r20 r21 r22 r23 v16 r24 r25 r26 v17)) [0] (by decide) rfl
      have hKc := hK.sub (tys' := []) [] rfl
      have hFc := va_free (wc := (wd_171f232f h0 v0 h1 v1 x7 (-1) 3 r0 r1 r2 r3 r4 r5 r6 v3 v4 r7 r8 r9 r10 v5 r11 r12 v6 v7 r13 r14 v8 v9 r15 v10 v11 r16 v12 w13 r17 v14 v15 r18 r19 r20 r21 r22 r23 v16 r24 r25 r26 v17)) hD hS hA [0] rfl
      refine va_callv (va_runV (As := []) (rest := []) ⟨hx, hb, hml, hown, hts⟩ (k_X12_bad l dC dI h0 v0 h1 v1 x7 3 r0 r1 r2 r3 r4 r5 r6 v3 v4 r7 r8 r9 r10 v5 r11 r12 v6 v7 r13 r14 v8 v9 r15 v10 v11 r16 v12 w13 r17 v14 v15 r18 r19 r20 r21 r22 r23 v16 r24 r25 r26 v17 ⟨i_v1a, i_v1b⟩ ⟨oa_x7, by first | omega | decide⟩ ⟨i_v3a, i_v3b⟩ ⟨i_v4a, i_v4b⟩ ⟨i_v5a, i_v5b⟩ ⟨i_v6a, i_v6b⟩ ⟨i_v7a, i_v7b⟩ ⟨i_v8a, i_v8b⟩ ⟨i_v12a, i_v12b⟩ ⟨i_v16a, i_v16b⟩ ⟨i_v17a, i_v17b⟩ H.size) (cwV 0 hts g_X12_closes_8_1 rfl rfl rfl (by decide +kernel) ⟨Nat.le_of_ble_eq_true rfl, Nat.le_of_ble_eq_true rfl⟩) (pv_PV12 hPc hKc hDc (q0 := 0) rfl) rfl rfl hl.1 rfl (lv_room (Nat.le_of_ble_eq_true rfl)) dX12_closes_17 ⟨Nat.le_of_ble_eq_true rfl, Nat.le_of_ble_eq_true rfl⟩) hS (fun q _ h => hFc q h) hFc (fun u t H1 locs ht hvm hwra11 hB hz1 hk1 hS => ?_)
      have hkra11_0 : ((3 : Int32)).toInt = 3 := by decide
      obtain ⟨x12, oa_x12, ob_x12, pt0_ra11, hP1, hK1, hD1⟩ := hB
      rw [ht] at hP1
      obtain ⟨hP2, hD2⟩ := va_join (wr := (wd_d0032b31 h1 g0 f18)) (w1 := (wd_171f232f h0 v0 h1 v1 x7 x12 3 r0 r1 r2 r3 r4 r5 r6 v3 v4 r7 r8 r9 r10 v5 r11 r12 v6 v7 r13 r14 v8 v9 r15 v10 v11 r16 v12 w13 r17 v14 v15 r18 r19 r20 r21 r22 r23 v16 r24 r25 r26 v17)) hP hD [0] [1] rfl rfl (by decide) (by decide) hk1 hFc hP1 hD1
      clear hP hD hPc hDc hKc hFc hP1 hK1 hD1 hk1 hz1
      generalize H1 = H at hP2 hS ⊢
      have hP := hP2.sub (ws' := (wd_f4cd022e h0 v0 h1 v1 x7 x12 3 r0 r1 r2 r3 r4 r5 r6 v3 v4 r7 r8 r9 r10 v5 r11 r12 v6 v7 r13 r14 v8 v9 r15 v10 v11 r16 v12 w13 r17 v14 v15 r18 r19 r20 r21 r22 r23 v16 r24 r25 r26 v17 h1 g0 f18)) [1, 0] rfl
      have hD := hD2.sub (ws' := (wd_f4cd022e h0 v0 h1 v1 x7 x12 3 r0 r1 r2 r3 r4 r5 r6 v3 v4 r7 r8 r9 r10 v5 r11 r12 v6 v7 r13 r14 v8 v9 r15 v10 v11 r16 v12 w13 r17 v14 v15 r18 r19 r20 r21 r22 r23 v16 r24 r25 r26 v17 h1 g0 f18)) [1, 0] (by decide) rfl
      clear hP2 hD2
      refine lv_aload_n hx hb dX12_closes_20 rfl (lv_at hl 0 rfl) ?_
      refine lv_dup hx hb dX12_closes_21 rfl ?_
      refine va_get (D := (dC, dI)) (ci := 12) (v := .int x7) (C := RX12) (T := TX12) (N := 48) hx hb hts (fun _ h => List.mem_cons_of_mem _ (List.mem_append_right _ h)) hown hK hP 0 rfl rfl 3 (by decide) (hts (.fieldLink RX12 112 "LeftArgumentsModel" "at" "I") (List.mem_cons_of_mem _ (List.mem_append_left _ (List.mem_of_getElem? (i := 3) rfl)))) (fun _ h9 => h9) rfl dX12_closes_22 ?_
      refine lv_iconst (v := 1) hx hb dX12_closes_25 (by decide) ?_
      refine lv_iadd hx hb dX12_closes_26 ?_
      refine lv_topi (fun t13 et13 => ?_)
      have gt13 : t13.toInt = x7.toInt + 1 := pv_add (a := x7.toInt) (b := 1) et13 rfl (by decide) (by omega) (by omega)
      refine va_put (D := (dC, dI)) (ci := 12) (v := .int t13) (ty := .int) (C := RX12) (T := TX12) (N := 48) hx hb hts (fun _ h => List.mem_cons_of_mem _ (List.mem_append_right _ h)) tyX12 tyX12_ok nmX12 hown hK hP hD hS 0 rfl rfl 3 (by decide) (hts (.fieldLink RX12 112 "LeftArgumentsModel" "at" "I") (List.mem_cons_of_mem _ (List.mem_append_left _ (List.mem_of_getElem? (i := 3) rfl)))) (fun _ h9 => h9) rfl (by decide +kernel) rfl rfl (Nat.le_of_ble_eq_true rfl) dX12_closes_27 (fun H locs hP hD hS => ?_)
      have hP : va_P (dC, dI) vwCl (wd_f4cd022e h0 v0 h1 v1 t13 x12 3 r0 r1 r2 r3 r4 r5 r6 v3 v4 r7 r8 r9 r10 v5 r11 r12 v6 v7 r13 r14 v8 v9 r15 v10 v11 r16 v12 w13 r17 v14 v15 r18 r19 r20 r21 r22 r23 v16 r24 r25 r26 v17 h1 g0 f18) H := hP
      have hD : va_D A (wd_f4cd022e h0 v0 h1 v1 t13 x12 3 r0 r1 r2 r3 r4 r5 r6 v3 v4 r7 r8 r9 r10 v5 r11 r12 v6 v7 r13 r14 v8 v9 r15 v10 v11 r16 v12 w13 r17 v14 v15 r18 r19 r20 r21 r22 r23 v16 r24 r25 r26 v17 h1 g0 f18) := hD
      refine lv_aload_n hx hb dX12_closes_30 rfl (lv_at hl 0 rfl) ?_
      refine lv_dup hx hb dX12_closes_31 rfl ?_
      refine va_get (D := (dC, dI)) (ci := 12) (v := .int 3) (C := RX12) (T := TX12) (N := 48) hx hb hts (fun _ h => List.mem_cons_of_mem _ (List.mem_append_right _ h)) hown hK hP 0 rfl rfl 5 (by decide) (hts (.fieldLink RX12 125 "LeftArgumentsModel" "deep" "I") (List.mem_cons_of_mem _ (List.mem_append_left _ (List.mem_of_getElem? (i := 17) rfl)))) (fun _ h9 => h9) rfl dX12_closes_32 ?_
      refine lv_iconst (v := 1) hx hb dX12_closes_35 (by decide) ?_
      refine lv_isub hx hb dX12_closes_36 ?_
      refine lv_topi (fun tv14 etv14 => ?_)
      obtain rfl : tv14 = (2 : Int32) := etv14.trans (by first | rfl | decide)
      refine va_put (D := (dC, dI)) (ci := 12) (v := .int 2) (ty := .int) (C := RX12) (T := TX12) (N := 48) hx hb hts (fun _ h => List.mem_cons_of_mem _ (List.mem_append_right _ h)) tyX12 tyX12_ok nmX12 hown hK hP hD hS 0 rfl rfl 5 (by decide) (hts (.fieldLink RX12 125 "LeftArgumentsModel" "deep" "I") (List.mem_cons_of_mem _ (List.mem_append_left _ (List.mem_of_getElem? (i := 17) rfl)))) (fun _ h9 => h9) rfl (by decide +kernel) rfl rfl (Nat.le_of_ble_eq_true rfl) dX12_closes_37 (fun H locs hP hD hS => ?_)
      have hP : va_P (dC, dI) vwCl (wd_f4cd022e h0 v0 h1 v1 t13 x12 2 r0 r1 r2 r3 r4 r5 r6 v3 v4 r7 r8 r9 r10 v5 r11 r12 v6 v7 r13 r14 v8 v9 r15 v10 v11 r16 v12 w13 r17 v14 v15 r18 r19 r20 r21 r22 r23 v16 r24 r25 r26 v17 h1 g0 f18) H := hP
      have hD : va_D A (wd_f4cd022e h0 v0 h1 v1 t13 x12 2 r0 r1 r2 r3 r4 r5 r6 v3 v4 r7 r8 r9 r10 v5 r11 r12 v6 v7 r13 r14 v8 v9 r15 v10 v11 r16 v12 w13 r17 v14 v15 r18 r19 r20 r21 r22 r23 v16 r24 r25 r26 v17 h1 g0 f18) := hD
      subst hQ
      have hP9 := hP.sub (ws' := (wd_f4cd022e h0 v0 h1 v1 t13 x12 2 r0 r1 r2 r3 r4 r5 r6 v3 v4 r7 r8 r9 r10 v5 r11 r12 v6 v7 r13 r14 v8 v9 r15 v10 v11 r16 v12 w13 r17 v14 v15 r18 r19 r20 r21 r22 r23 v16 r24 r25 r26 v17 h1 g0 f18)) [0, 1] rfl
      have hD9 := hD.sub (ws' := (wd_f4cd022e h0 v0 h1 v1 t13 x12 2 r0 r1 r2 r3 r4 r5 r6 v3 v4 r7 r8 r9 r10 v5 r11 r12 v6 v7 r13 r14 v8 v9 r15 v10 v11 r16 v12 w13 r17 v14 v15 r18 r19 r20 r21 r22 r23 v16 r24 r25 r26 v17 h1 g0 f18)) [0, 1] (by decide) rfl
      have hK9 := hK.sub (tys' := []) [] rfl
      exact W.vret hx hb hr (fun t ht hW => ⟨⟨(), rfl, trivial, Or.inr (⟨t13, x12, by first | omega | decide, by first | omega | decide, oa_x12, ob_x12, by omega, by first | (apply pg_take.ok <;> first | assumption | omega) | (apply pg_take.no <;> first | assumption | omega), by rw [ht]; exact hP9, va_K.moved hW.alike hK9, hD9⟩)⟩, hS.F ht⟩) hS.2.2 dX12_closes_40
def q_X12_atom_4 : List Cond := .code yX12_atom cX12_atom 2 none :: (([.code yX12_look cX12_look 1 (some .int), .code yX12_here cX12_here 1 (some .int), .fieldLink RX12 112 "LeftArgumentsModel" "at" "I", .fieldLink RX12 109 "LeftArgumentsModel" "size" "I", .fieldLink RX12 9 "LeftArgumentsModel" "tape" "[I", .initialized RX12, .instanceMethod yX12_here, .selects RX12 yX12_here yX12_here, .methodLink RX12 115 yX12_here, .instanceMethod yX12_look, .selects RX12 yX12_look yX12_look, .methodLink RX12 131 yX12_look, .code yX12_isDigit cX12_isDigit 1 (some .boolean), .static yX12_isDigit, .methodLink RX12 134 yX12_isDigit, .code yX12_letterOf cX12_letterOf 1 (some .int), .static yX12_letterOf, .methodLink RX12 145 yX12_letterOf, .code yX12_bad cX12_bad 1 none, .fieldLink RX12 119 "LeftArgumentsModel" "wrong" "I", .instanceMethod yX12_bad, .selects RX12 yX12_bad yX12_bad, .methodLink RX12 128 yX12_bad, .code yX12_opens cX12_opens 1 none, .fieldLink RX12 125 "LeftArgumentsModel" "deep" "I", .instanceMethod yX12_opens, .selects RX12 yX12_opens yX12_opens, .methodLink RX12 149 yX12_opens, .code yX12_sum cX12_sum 2 none, .code yX12_term cX12_term 2 none, .code yX12_atom cX12_atom 2 none, .code yX12_put cX12_put 3 none, .fieldLink RX12 13 "LeftArgumentsModel" "code" "[I", .fieldLink RX12 122 "LeftArgumentsModel" "text" "I", .fieldLink RX12 19 "LeftArgumentsModel" "codes" "[I", .fieldLink RX12 16 "LeftArgumentsModel" "value" "[I", .instanceMethod yX12_put, .selects RX12 yX12_put yX12_put, .methodLink RX12 141 yX12_put, .code yX12_plainNumber cX12_plainNumber 3 (some .int), .instanceMethod yX12_plainNumber, .selects RX12 yX12_plainNumber yX12_plainNumber, .methodLink RX12 138 yX12_plainNumber, .instanceMethod yX12_atom, .selects RX12 yX12_atom yX12_atom, .methodLink RX12 159 yX12_atom, .instanceMethod yX12_term, .selects RX12 yX12_term yX12_term, .methodLink RX12 162 yX12_term, .instanceMethod yX12_sum, .selects RX12 yX12_sum yX12_sum, .methodLink RX12 152 yX12_sum, .code yX12_closes cX12_closes 2 none, .instanceMethod yX12_closes, .selects RX12 yX12_closes yX12_closes, .methodLink RX12 155 yX12_closes] : List Cond) ++ wsX120)
set_option maxRecDepth 20000 in
theorem g_X12_atom_4_0 : GoodIn q_X12_atom_4 (wsV RX12 131 RX12 yX12_look q_X12_look) := goodIn_app (goodIn_r _ [12, 10, 11, 6] rfl (by decide +kernel)) (goodIn_ca (goodIn_r (.code yX12_look cX12_look 1 (some .int) :: [.code yX12_here cX12_here 1 (some .int), .fieldLink RX12 112 "LeftArgumentsModel" "at" "I", .fieldLink RX12 109 "LeftArgumentsModel" "size" "I", .fieldLink RX12 9 "LeftArgumentsModel" "tape" "[I", .initialized RX12, .instanceMethod yX12_here, .selects RX12 yX12_here yX12_here, .methodLink RX12 115 yX12_here]) [1, 2, 3, 4, 5, 6, 7, 8, 9] rfl (by decide +kernel)) (goodIn_sub (fun _ h => List.mem_cons_of_mem _ (List.mem_append_right _ h)) gwX12))
set_option maxRecDepth 20000 in
theorem g_X12_atom_4_1 : GoodIn q_X12_atom_4 (va_wsS RX12 134 yX12_isDigit q_X12_isDigit) := goodIn_app (goodIn_r _ [15, 14, 6] rfl (by decide +kernel)) (goodIn_r (.code yX12_isDigit cX12_isDigit 1 (some .boolean) :: []) [13] rfl (by decide +kernel))
set_option maxRecDepth 20000 in
theorem g_X12_atom_4_2 : GoodIn q_X12_atom_4 (va_wsS RX12 145 yX12_letterOf q_X12_letterOf) := goodIn_app (goodIn_r _ [18, 17, 6] rfl (by decide +kernel)) (goodIn_r (.code yX12_letterOf cX12_letterOf 1 (some .int) :: []) [16] rfl (by decide +kernel))
set_option maxRecDepth 20000 in
theorem g_X12_atom_4_3 : GoodIn q_X12_atom_4 (wsV RX12 128 RX12 yX12_bad q_X12_bad) := goodIn_app (goodIn_r _ [23, 21, 22, 6] rfl (by decide +kernel)) (goodIn_ca (goodIn_r (.code yX12_bad cX12_bad 1 none :: [.fieldLink RX12 119 "LeftArgumentsModel" "wrong" "I", .fieldLink RX12 112 "LeftArgumentsModel" "at" "I"]) [19, 20, 3] rfl (by decide +kernel)) (goodIn_sub (fun _ h => List.mem_cons_of_mem _ (List.mem_append_right _ h)) gwX12))
set_option maxRecDepth 20000 in
theorem g_X12_atom_4_7 : GoodIn q_X12_atom_4 (wsV RX12 149 RX12 yX12_opens q_X12_opens_4) := goodIn_app (goodIn_r _ [28, 26, 27, 6] rfl (by decide +kernel)) (goodIn_ca (goodIn_r (.code yX12_opens cX12_opens 1 none :: [.fieldLink RX12 125 "LeftArgumentsModel" "deep" "I", .fieldLink RX12 112 "LeftArgumentsModel" "at" "I"]) [24, 25, 3] rfl (by decide +kernel)) (goodIn_sub (fun _ h => List.mem_cons_of_mem _ (List.mem_append_right _ h)) gwX12))
set_option maxRecDepth 20000 in
theorem g_X12_atom_4_8 : GoodIn q_X12_atom_4 (wsV RX12 152 RX12 yX12_sum q_X12_sum_3) := goodIn_app (goodIn_r _ [52, 50, 51, 6] rfl (by decide +kernel)) (goodIn_ca (goodIn_r (.code yX12_sum cX12_sum 2 none :: [.code yX12_term cX12_term 2 none, .code yX12_atom cX12_atom 2 none, .code yX12_look cX12_look 1 (some .int), .code yX12_here cX12_here 1 (some .int), .fieldLink RX12 112 "LeftArgumentsModel" "at" "I", .fieldLink RX12 109 "LeftArgumentsModel" "size" "I", .fieldLink RX12 9 "LeftArgumentsModel" "tape" "[I", .initialized RX12, .instanceMethod yX12_here, .selects RX12 yX12_here yX12_here, .methodLink RX12 115 yX12_here, .instanceMethod yX12_look, .selects RX12 yX12_look yX12_look, .methodLink RX12 131 yX12_look, .code yX12_isDigit cX12_isDigit 1 (some .boolean), .static yX12_isDigit, .methodLink RX12 134 yX12_isDigit, .code yX12_letterOf cX12_letterOf 1 (some .int), .static yX12_letterOf, .methodLink RX12 145 yX12_letterOf, .code yX12_bad cX12_bad 1 none, .fieldLink RX12 119 "LeftArgumentsModel" "wrong" "I", .instanceMethod yX12_bad, .selects RX12 yX12_bad yX12_bad, .methodLink RX12 128 yX12_bad, .code yX12_opens cX12_opens 1 none, .fieldLink RX12 125 "LeftArgumentsModel" "deep" "I", .instanceMethod yX12_opens, .selects RX12 yX12_opens yX12_opens, .methodLink RX12 149 yX12_opens, .code yX12_sum cX12_sum 2 none, .code yX12_put cX12_put 3 none, .fieldLink RX12 13 "LeftArgumentsModel" "code" "[I", .fieldLink RX12 122 "LeftArgumentsModel" "text" "I", .fieldLink RX12 19 "LeftArgumentsModel" "codes" "[I", .fieldLink RX12 16 "LeftArgumentsModel" "value" "[I", .instanceMethod yX12_put, .selects RX12 yX12_put yX12_put, .methodLink RX12 141 yX12_put, .code yX12_plainNumber cX12_plainNumber 3 (some .int), .instanceMethod yX12_plainNumber, .selects RX12 yX12_plainNumber yX12_plainNumber, .methodLink RX12 138 yX12_plainNumber, .instanceMethod yX12_atom, .selects RX12 yX12_atom yX12_atom, .methodLink RX12 159 yX12_atom, .instanceMethod yX12_term, .selects RX12 yX12_term yX12_term, .methodLink RX12 162 yX12_term, .instanceMethod yX12_sum, .selects RX12 yX12_sum yX12_sum, .methodLink RX12 152 yX12_sum, .code yX12_closes cX12_closes 2 none, .instanceMethod yX12_closes, .selects RX12 yX12_closes yX12_closes, .methodLink RX12 155 yX12_closes]) [29, 30, 31, 1, 2, 3, 4, 5, 6, 7, 8, 9, 10, 11, 12, 13, 14, 15, 16, 17, 18, 19, 20, 21, 22, 23, 24, 25, 26, 27, 28, 29, 32, 33, 34, 35, 36, 37, 38, 39, 40, 41, 42, 43, 44, 45, 46, 47, 48, 49, 50, 51, 52, 53, 54, 55, 56] rfl (by decide +kernel)) (goodIn_sub (fun _ h => List.mem_cons_of_mem _ (List.mem_append_right _ h)) gwX12))
set_option maxRecDepth 20000 in
theorem g_X12_atom_4_9 : GoodIn q_X12_atom_4 (wsV RX12 155 RX12 yX12_closes q_X12_closes_8) := goodIn_app (goodIn_r _ [56, 54, 55, 6] rfl (by decide +kernel)) (goodIn_ca (goodIn_r (.code yX12_closes cX12_closes 2 none :: [.fieldLink RX12 119 "LeftArgumentsModel" "wrong" "I", .code yX12_look cX12_look 1 (some .int), .code yX12_here cX12_here 1 (some .int), .fieldLink RX12 112 "LeftArgumentsModel" "at" "I", .fieldLink RX12 109 "LeftArgumentsModel" "size" "I", .fieldLink RX12 9 "LeftArgumentsModel" "tape" "[I", .initialized RX12, .instanceMethod yX12_here, .selects RX12 yX12_here yX12_here, .methodLink RX12 115 yX12_here, .instanceMethod yX12_look, .selects RX12 yX12_look yX12_look, .methodLink RX12 131 yX12_look, .code yX12_bad cX12_bad 1 none, .instanceMethod yX12_bad, .selects RX12 yX12_bad yX12_bad, .methodLink RX12 128 yX12_bad, .fieldLink RX12 125 "LeftArgumentsModel" "deep" "I"]) [53, 20, 1, 2, 3, 4, 5, 6, 7, 8, 9, 10, 11, 12, 19, 21, 22, 23, 25] rfl (by decide +kernel)) (goodIn_sub (fun _ h => List.mem_cons_of_mem _ (List.mem_append_right _ h)) gwX12))
set_option maxRecDepth 20000 in
theorem g_X12_atom_4_10 : GoodIn q_X12_atom_4 (wsV RX12 155 RX12 yX12_closes q_X12_closes_1) := goodIn_app (goodIn_r _ [56, 54, 55, 6] rfl (by decide +kernel)) (goodIn_ca (goodIn_r (.code yX12_closes cX12_closes 2 none :: [.fieldLink RX12 119 "LeftArgumentsModel" "wrong" "I", .fieldLink RX12 112 "LeftArgumentsModel" "at" "I", .fieldLink RX12 125 "LeftArgumentsModel" "deep" "I"]) [53, 20, 3, 25] rfl (by decide +kernel)) (goodIn_sub (fun _ h => List.mem_cons_of_mem _ (List.mem_append_right _ h)) gwX12))
set_option maxRecDepth 20000 in
theorem g_X12_atom_4_12 : GoodIn q_X12_atom_4 (wsV RX12 141 RX12 yX12_put q_X12_put) := goodIn_app (goodIn_r _ [39, 37, 38, 6] rfl (by decide +kernel)) (goodIn_ca (goodIn_r (.code yX12_put cX12_put 3 none :: [.fieldLink RX12 13 "LeftArgumentsModel" "code" "[I", .fieldLink RX12 122 "LeftArgumentsModel" "text" "I", .fieldLink RX12 19 "LeftArgumentsModel" "codes" "[I", .fieldLink RX12 16 "LeftArgumentsModel" "value" "[I"]) [32, 33, 34, 35, 36] rfl (by decide +kernel)) (goodIn_sub (fun _ h => List.mem_cons_of_mem _ (List.mem_append_right _ h)) gwX12))
set_option maxRecDepth 20000 in
theorem g_X12_atom_4_13 : GoodIn q_X12_atom_4 (wsV RX12 138 RX12 yX12_plainNumber q_X12_plainNumber) := goodIn_app (goodIn_r _ [43, 41, 42, 6] rfl (by decide +kernel)) (goodIn_ca (goodIn_r (.code yX12_plainNumber cX12_plainNumber 3 (some .int) :: [.code yX12_here cX12_here 1 (some .int), .fieldLink RX12 112 "LeftArgumentsModel" "at" "I", .fieldLink RX12 109 "LeftArgumentsModel" "size" "I", .fieldLink RX12 9 "LeftArgumentsModel" "tape" "[I", .initialized RX12, .instanceMethod yX12_here, .selects RX12 yX12_here yX12_here, .methodLink RX12 115 yX12_here, .code yX12_isDigit cX12_isDigit 1 (some .boolean), .static yX12_isDigit, .methodLink RX12 134 yX12_isDigit, .code yX12_bad cX12_bad 1 none, .fieldLink RX12 119 "LeftArgumentsModel" "wrong" "I", .instanceMethod yX12_bad, .selects RX12 yX12_bad yX12_bad, .methodLink RX12 128 yX12_bad]) [40, 2, 3, 4, 5, 6, 7, 8, 9, 13, 14, 15, 19, 20, 21, 22, 23] rfl (by decide +kernel)) (goodIn_sub (fun _ h => List.mem_cons_of_mem _ (List.mem_append_right _ h)) gwX12))
set_option maxHeartbeats 4000000 in
set_option maxRecDepth 100000 in
theorem k_X12_atom_4 (l : Launch) (dC : Nat → ClassId) (dI : Nat → Nat → Nat) (h0 : Nat) (h1 : Nat) (h2 : Nat) (h3 : Nat) (h4 : Nat) (v0 : Int32) (v1 : Int32) (v2 : Int32) (r0 : Nat) (r1 : Nat) (r2 : Nat) (r3 : Nat) (v3 : Int32) (v4 : Int32) (r4 : Nat) (r5 : Nat) (r6 : Nat) (r7 : Nat) (v5 : Int32) (r8 : Nat) (r9 : Nat) (v6 : Int32) (v7 : Int32) (r10 : Nat) (r11 : Nat) (v8 : Int32) (v9 : Int32) (r12 : Nat) (v10 : Int32) (v11 : Int32) (r13 : Nat) (v12 : Int32) (w13 : Int64) (r14 : Nat) (v14 : Int32) (v15 : Int32) (r15 : Nat) (r16 : Nat) (r17 : Nat) (r18 : Nat) (r19 : Nat) (r20 : Nat) (v16 : Int32) (r21 : Nat) (r22 : Nat) (r23 : Nat) (v17 : Int32) (g0 : ClassId) (f18 : Nat → Int32) (g1 : ClassId) (f19 : Nat → Int32) (g2 : ClassId) (f20 : Nat → Int32) (g3 : ClassId) (f21 : Nat → Int32) (i_v1 : 0 ≤ v1.toInt ∧ v1.toInt ≤ 240) (i_v2 : 0 ≤ v2.toInt ∧ v2.toInt ≤ 240) (i_v3 : 0 ≤ v3.toInt ∧ v3.toInt ≤ 4) (i_v4 : 0 ≤ v4.toInt ∧ v4.toInt ≤ 4) (i_v5 : 0 ≤ v5.toInt ∧ v5.toInt ≤ 8) (i_v6 : 0 ≤ v6.toInt ∧ v6.toInt ≤ 8) (i_v7 : 0 ≤ v7.toInt ∧ v7.toInt ≤ 1) (i_v8 : -1 ≤ v8.toInt ∧ v8.toInt ≤ 3) (i_v12 : 0 ≤ v12.toInt ∧ v12.toInt ≤ 40) (i_v16 : 0 ≤ v16.toInt ∧ v16.toInt ≤ 10) (i_v17 : 0 ≤ v17.toInt ∧ v17.toInt ≤ 1) (ia_f18 : (∀ j, 0 ≤ (f18 j).toInt ∧ (f18 j).toInt ≤ 255)) (pp0 : 0 ≤ pm_x f21 v4 ∧ pm_x f21 v4 ≤ v2.toInt) (sz : Nat) : Met l yX12_atom q_X12_atom_4 ({ frames := 14, cells := 0, slots := 0, locals := 294 }) (va_Pc [.ref h0] (fun U => U.heap.size = sz ∧ va_P (dC, dI) vwCl (wd_d906eaf1 h0 v0 h1 v1 v2 (-1) 2 h2 h3 h4 r0 r1 r2 r3 v3 v4 r4 r5 r6 r7 v5 r8 r9 v6 v7 r10 r11 v8 v9 r12 v10 v11 r13 v12 w13 r14 v14 v15 r15 r16 r17 r18 r19 r20 v16 r21 r22 r23 v17 h1 g0 f18 h2 g1 f19 h3 g2 f20 h4 g3 f21) U.heap ∧ va_K (dC, dI) vwCl [(g0, .int), (g1, .int), (g2, .int), (g3, .int)] U ∧ va_D (fun _ => True) (wd_d906eaf1 h0 v0 h1 v1 v2 (-1) 2 h2 h3 h4 r0 r1 r2 r3 v3 v4 r4 r5 r6 r7 v5 r8 r9 v6 v7 r10 r11 v8 v9 r12 v10 v11 r13 v12 w13 r14 v14 v15 r15 r16 r17 r18 r19 r20 v16 r21 r22 r23 v17 h1 g0 f18 h2 g1 f19 h3 g2 f20 h4 g3 f21))) (va_Qv (fun (_ : Unit) => True) (fun (_ : Unit) (t : State) => (∃ (o_h0_3 : Int32) (o_h2 : Nat → Int32) (o_h3 : Nat → Int32) (o_h4 : Nat → Int32), 0 ≤ o_h0_3.toInt ∧ o_h0_3.toInt ≤ 240 ∧ (pm_x o_h4 v4 - pm_x f21 v4 ≤ o_h0_3.toInt - v2.toInt ∧ v2.toInt ≤ o_h0_3.toInt) ∧ (pm_R v4 0 1 9 f19 f20 f21 o_h2 o_h3 o_h4) ∧ (pg_atom f18 v1.toInt 4 v2.toInt = (true, o_h0_3.toInt)) ∧ va_P (dC, dI) vwCl (wd_d906eaf1 h0 v0 h1 v1 o_h0_3 (-1) 2 h2 h3 h4 r0 r1 r2 r3 v3 v4 r4 r5 r6 r7 v5 r8 r9 v6 v7 r10 r11 v8 v9 r12 v10 v11 r13 v12 w13 r14 v14 v15 r15 r16 r17 r18 r19 r20 v16 r21 r22 r23 v17 h1 g0 f18 h2 g1 o_h2 h3 g2 o_h3 h4 g3 o_h4) t.heap ∧ va_K (dC, dI) vwCl [] t ∧ va_D (va_A (wd_d906eaf1 h0 v0 h1 v1 v2 (-1) 2 h2 h3 h4 r0 r1 r2 r3 v3 v4 r4 r5 r6 r7 v5 r8 r9 v6 v7 r10 r11 v8 v9 r12 v10 v11 r13 v12 w13 r14 v14 v15 r15 r16 r17 r18 r19 r20 v16 r21 r22 r23 v17 h1 g0 f18 h2 g1 f19 h3 g2 f20 h4 g3 f21) sz) (wd_d906eaf1 h0 v0 h1 v1 o_h0_3 (-1) 2 h2 h3 h4 r0 r1 r2 r3 v3 v4 r4 r5 r6 r7 v5 r8 r9 v6 v7 r10 r11 v8 v9 r12 v10 v11 r13 v12 w13 r14 v14 v15 r15 r16 r17 r18 r19 r20 v16 r21 r22 r23 v17 h1 g0 f18 h2 g1 o_h2 h3 g2 o_h3 h4 g3 o_h4)) ∨ (∃ (o_h0_3 : Int32) (o_h0_4 : Int32) (o_h0_5 : Int32) (o_h2 : Nat → Int32) (o_h3 : Nat → Int32) (o_h4 : Nat → Int32), 0 ≤ o_h0_3.toInt ∧ o_h0_3.toInt ≤ 244 ∧ 0 ≤ o_h0_4.toInt ∧ o_h0_4.toInt ≤ 240 ∧ (pm_x o_h4 v4 - pm_x f21 v4 ≤ o_h0_3.toInt - v2.toInt ∧ v2.toInt ≤ o_h0_3.toInt) ∧ (pm_F v4 f19 f20 f21 o_h2 o_h3 o_h4) ∧ (pg_atom f18 v1.toInt 4 v2.toInt = (false, o_h0_4.toInt)) ∧ va_P (dC, dI) vwCl (wd_d906eaf1 h0 v0 h1 v1 o_h0_3 o_h0_4 o_h0_5 h2 h3 h4 r0 r1 r2 r3 v3 v4 r4 r5 r6 r7 v5 r8 r9 v6 v7 r10 r11 v8 v9 r12 v10 v11 r13 v12 w13 r14 v14 v15 r15 r16 r17 r18 r19 r20 v16 r21 r22 r23 v17 h1 g0 f18 h2 g1 o_h2 h3 g2 o_h3 h4 g3 o_h4) t.heap ∧ va_K (dC, dI) vwCl [] t ∧ va_D (va_A (wd_d906eaf1 h0 v0 h1 v1 v2 (-1) 2 h2 h3 h4 r0 r1 r2 r3 v3 v4 r4 r5 r6 r7 v5 r8 r9 v6 v7 r10 r11 v8 v9 r12 v10 v11 r13 v12 w13 r14 v14 v15 r15 r16 r17 r18 r19 r20 v16 r21 r22 r23 v17 h1 g0 f18 h2 g1 f19 h3 g2 f20 h4 g3 f21) sz) (wd_d906eaf1 h0 v0 h1 v1 o_h0_3 o_h0_4 o_h0_5 h2 h3 h4 r0 r1 r2 r3 v3 v4 r4 r5 r6 r7 v5 r8 r9 v6 v7 r10 r11 v8 v9 r12 v10 v11 r13 v12 w13 r14 v14 v15 r15 r16 r17 r18 r19 r20 v16 r21 r22 r23 v17 h1 g0 f18 h2 g1 o_h2 h3 g2 o_h3 h4 g3 o_h4))) (va_A (wd_d906eaf1 h0 v0 h1 v1 v2 (-1) 2 h2 h3 h4 r0 r1 r2 r3 v3 v4 r4 r5 r6 r7 v5 r8 r9 v6 v7 r10 r11 v8 v9 r12 v10 v11 r13 v12 w13 r14 v14 v15 r15 r16 r17 r18 r19 r20 v16 r21 r22 r23 v17 h1 g0 f18 h2 g1 f19 h3 g2 f20 h4 g3 f21) sz)) 0 0 (va_A (wd_d906eaf1 h0 v0 h1 v1 v2 (-1) 2 h2 h3 h4 r0 r1 r2 r3 v3 v4 r4 r5 r6 r7 v5 r8 r9 v6 v7 r10 r11 v8 v9 r12 v10 v11 r13 v12 w13 r14 v14 v15 r15 r16 r17 r18 r19 r20 v16 r21 r22 r23 v17 h1 g0 f18 h2 g1 f19 h3 g2 f20 h4 g3 f21) sz) := by
  refine Met.ofW (cc := cX12_atom) (maxL := 2) (ret := none) (by decide) rfl ?_
  intro p e s m args below meth c s₁ B hml hv
  obtain ⟨i_v1a, i_v1b⟩ := i_v1
  obtain ⟨i_v2a, i_v2b⟩ := i_v2
  obtain ⟨i_v3a, i_v3b⟩ := i_v3
  obtain ⟨i_v4a, i_v4b⟩ := i_v4
  obtain ⟨i_v5a, i_v5b⟩ := i_v5
  obtain ⟨i_v6a, i_v6b⟩ := i_v6
  obtain ⟨i_v7a, i_v7b⟩ := i_v7
  obtain ⟨i_v8a, i_v8b⟩ := i_v8
  obtain ⟨i_v12a, i_v12b⟩ := i_v12
  obtain ⟨i_v16a, i_v16b⟩ := i_v16
  obtain ⟨i_v17a, i_v17b⟩ := i_v17
  obtain ⟨rfl, hsz, hP, hK, hD0⟩ := hv
  have hx := B.exec
  have hb := B.bytes
  have hr := B.returns
  have hts := atoms_spec (ws := q_X12_atom_4) B.pre
  have hown : s.vm.findClass RX12 = some m.cls := findClass_of_methodNamed B.named
  have hlocks := B.notSynchronized
  subst hsz
  have hD := hD0.self (sz := s.heap.size)
  generalize hAe : va_A (wd_d906eaf1 h0 v0 h1 v1 v2 (-1) 2 h2 h3 h4 r0 r1 r2 r3 v3 v4 r4 r5 r6 r7 v5 r8 r9 v6 v7 r10 r11 v8 v9 r12 v10 v11 r13 v12 w13 r14 v14 v15 r15 r16 r17 r18 r19 r20 v16 r21 r22 r23 v17 h1 g0 f18 h2 g1 f19 h3 g2 f20 h4 g3 f21) s.heap.size = A at hD ⊢
  have hA : ∀ q : Nat, s.heap.size ≤ q → A q := fun q h => by rw [← hAe]; exact Or.inr h
  have hS : va_S A s.heap s.heap [] := va_S.rf
  generalize hQ : (MQ below _ _ s 0 0 A) = Q
  have hl := lv_entry ([.ref h0]) (n := 2) (Nat.le_of_ble_eq_true rfl)
  rw [lg_entry_eq]
  generalize (lg_sl ([.ref h0]) ++ List.replicate (2 - (lg_sl ([.ref h0])).length) Slot.unset).toArray = ls at hl ⊢
  have hl : lv_has ls 2 [(0, .ref h0)] := hl
  obtain ⟨H, hH⟩ : ∃ H : Heap, H = s.heap := ⟨_, rfl⟩
  obtain ⟨locs, hlocs⟩ : ∃ y : List Loc, y = [] := ⟨_, rfl⟩
  have hS : va_S A s.heap H locs := by rw [hH, hlocs]; exact va_S.rf
  have hP : va_P (dC, dI) vwCl (wd_d906eaf1 h0 v0 h1 v1 v2 (-1) 2 h2 h3 h4 r0 r1 r2 r3 v3 v4 r4 r5 r6 r7 v5 r8 r9 v6 v7 r10 r11 v8 v9 r12 v10 v11 r13 v12 w13 r14 v14 v15 r15 r16 r17 r18 r19 r20 v16 r21 r22 r23 v17 h1 g0 f18 h2 g1 f19 h3 g2 f20 h4 g3 f21) H := by rw [hH]; exact hP
  rw [← hH, ← hlocs]
  obtain ⟨px1, px2⟩ := pp0
  have hgR := pm_R.refl (L := 0) v4 f19 f20 f21 px1
  have hgF := hgR.1
  refine lv_aload_n hx hb dX12_atom_0 rfl (lv_at hl 0 rfl) ?_
  have hPc := hP.sub (ws' := (wd_f4cd022e h0 v0 h1 v1 v2 (-1) 2 h2 h3 h4 r0 r1 r2 r3 v3 v4 r4 r5 r6 r7 v5 r8 r9 v6 v7 r10 r11 v8 v9 r12 v10 v11 r13 v12 w13 r14 v14 v15 r15 r16 r17 r18 r19 r20 v16 r21 r22 r23 v17 h1 g0 f18)) [0, 1] rfl
  have hDc := hD.sub (ws' := (wd_f4cd022e h0 v0 h1 v1 v2 (-1) 2 h2 h3 h4 r0 r1 r2 r3 v3 v4 r4 r5 r6 r7 v5 r8 r9 v6 v7 r10 r11 v8 v9 r12 v10 v11 r13 v12 w13 r14 v14 v15 r15 r16 r17 r18 r19 r20 v16 r21 r22 r23 v17 h1 g0 f18)) [0, 1] (by decide) rfl
  have hKc := hK.sub (tys' := [(g0, .int)]) [0] rfl
  have hFc := va_free (wc := (wd_f4cd022e h0 v0 h1 v1 v2 (-1) 2 h2 h3 h4 r0 r1 r2 r3 v3 v4 r4 r5 r6 r7 v5 r8 r9 v6 v7 r10 r11 v8 v9 r12 v10 v11 r13 v12 w13 r14 v14 v15 r15 r16 r17 r18 r19 r20 v16 r21 r22 r23 v17 h1 g0 f18)) hD hS hA [0, 1] rfl
  refine va_calli (va_runV (As := []) (rest := []) ⟨hx, hb, hml, hown, hts⟩ (k_X12_look l dC dI h0 h1 v0 v1 v2 ((-1)) 2 h2 h3 h4 r0 r1 r2 r3 v3 v4 r4 r5 r6 r7 v5 r8 r9 v6 v7 r10 r11 v8 v9 r12 v10 v11 r13 v12 w13 r14 v14 v15 r15 r16 r17 r18 r19 r20 v16 r21 r22 r23 v17 g0 f18 ⟨i_v1a, i_v1b⟩ ⟨i_v2a, i_v2b⟩ ⟨i_v3a, i_v3b⟩ ⟨i_v4a, i_v4b⟩ ⟨i_v5a, i_v5b⟩ ⟨i_v6a, i_v6b⟩ ⟨i_v7a, i_v7b⟩ ⟨i_v8a, i_v8b⟩ ⟨i_v12a, i_v12b⟩ ⟨i_v16a, i_v16b⟩ ⟨i_v17a, i_v17b⟩ ia_f18 H.size) (cwV 0 hts g_X12_atom_4_0 rfl rfl rfl (by decide +kernel) ⟨Nat.le_of_ble_eq_true rfl, Nat.le_of_ble_eq_true rfl⟩) (pv_PV12 hPc hKc hDc (q0 := 0) rfl) rfl rfl hl.1 rfl (lv_room (Nat.le_of_ble_eq_true rfl)) dX12_atom_1 ⟨Nat.le_of_ble_eq_true rfl, Nat.le_of_ble_eq_true rfl⟩) hS (fun q _ h => hFc q h) hFc (fun ra1 u t H1 locs ht hvm hwra1 hB hz1 hk1 hS => ?_)
  try rw [hwra1] at hB
  have hkra1_0 : (((-1) : Int32)).toInt = -1 := by decide
  have hkra1_1 : ((2 : Int32)).toInt = 2 := by decide
  rcases hB with hB | hB
  · skip
    obtain ⟨x2, oa_x2, ob_x2, pt0_ra1, pt1_ra1, pt2_ra1, pt3_ra1, pt4_ra1, pt5_ra1, pt6_ra1, hP1, hK1, hD1⟩ := hB
    rw [ht] at hP1
    obtain ⟨hP2, hD2⟩ := va_join (wr := (wd_ad0642e8 h2 g1 f19 h3 g2 f20 h4 g3 f21)) (w1 := (wd_f4cd022e h0 v0 h1 v1 x2 (-1) 2 h2 h3 h4 r0 r1 r2 r3 v3 v4 r4 r5 r6 r7 v5 r8 r9 v6 v7 r10 r11 v8 v9 r12 v10 v11 r13 v12 w13 r14 v14 v15 r15 r16 r17 r18 r19 r20 v16 r21 r22 r23 v17 h1 g0 f18)) hP hD [0, 1] [2, 3, 4] rfl rfl (by decide) (by decide) hk1 hFc hP1 hD1
    clear hP hD hPc hDc hKc hFc hP1 hK1 hD1 hk1 hz1
    generalize H1 = H at hP2 hS ⊢
    have hP := hP2.sub (ws' := (wd_d906eaf1 h0 v0 h1 v1 x2 (-1) 2 h2 h3 h4 r0 r1 r2 r3 v3 v4 r4 r5 r6 r7 v5 r8 r9 v6 v7 r10 r11 v8 v9 r12 v10 v11 r13 v12 w13 r14 v14 v15 r15 r16 r17 r18 r19 r20 v16 r21 r22 r23 v17 h1 g0 f18 h2 g1 f19 h3 g2 f20 h4 g3 f21)) [3, 4, 0, 1, 2] rfl
    have hD := hD2.sub (ws' := (wd_d906eaf1 h0 v0 h1 v1 x2 (-1) 2 h2 h3 h4 r0 r1 r2 r3 v3 v4 r4 r5 r6 r7 v5 r8 r9 v6 v7 r10 r11 v8 v9 r12 v10 v11 r13 v12 w13 r14 v14 v15 r15 r16 r17 r18 r19 r20 v16 r21 r22 r23 v17 h1 g0 f18 h2 g1 f19 h3 g2 f20 h4 g3 f21)) [3, 4, 0, 1, 2] (by decide) rfl
    clear hP2 hD2
    obtain rfl : ra1 = ((-1) : Int32) := pv_cs (by decide) pt0_ra1 pt1_ra1
    refine lv_istore_n (lv' := [(1, .int (-1)), (0, .ref h0)]) hx hb dX12_atom_4 rfl hl (by decide) rfl (fun ls hl => ?_)
    refine lv_iload_n hx hb dX12_atom_5 rfl (lv_at hl 0 rfl) ?_
    have hPc := hP.sub (ws' := []) [] rfl
    have hDc := hD.sub (ws' := []) [] (by decide) rfl
    have hKc := hK.sub (tys' := []) [] rfl
    have hFc := va_free (wc := []) hD hS hA [] rfl
    refine va_calli (va_runS (As := [.int (-1)]) (rest := []) ⟨hx, hb, hml, hown, hts⟩ (k_X12_isDigit l dC dI ((-1))  H.size) (va_cwS 1 hts g_X12_atom_4_1 rfl rfl rfl (by decide +kernel) ⟨Nat.le_of_ble_eq_true rfl, Nat.le_of_ble_eq_true rfl⟩) (pv_PS hPc hKc hDc) rfl rfl hl.1 rfl (lv_room (Nat.le_of_ble_eq_true rfl)) dX12_atom_6 ⟨Nat.le_of_ble_eq_true rfl, Nat.le_of_ble_eq_true rfl⟩) hS (fun q _ h => hFc q h) hFc (fun ra3 u t H1 locs ht hvm hwra3 hB hz1 hk1 hS => ?_)
    try rw [hwra3] at hB
    have hkra3_0 : (((-1) : Int32)).toInt = -1 := by decide
    obtain ⟨pt0_ra3, pt1_ra3, pt2_ra3, pt3_ra3, pt4_ra3, hP1, hK1, hD1⟩ := hB
    rw [ht] at hP1
    obtain ⟨hP2, hD2⟩ := va_join (wr := (wd_d906eaf1 h0 v0 h1 v1 x2 (-1) 2 h2 h3 h4 r0 r1 r2 r3 v3 v4 r4 r5 r6 r7 v5 r8 r9 v6 v7 r10 r11 v8 v9 r12 v10 v11 r13 v12 w13 r14 v14 v15 r15 r16 r17 r18 r19 r20 v16 r21 r22 r23 v17 h1 g0 f18 h2 g1 f19 h3 g2 f20 h4 g3 f21)) (w1 := []) hP hD [] [0, 1, 2, 3, 4] rfl rfl (by decide) (by decide) hk1 hFc hP1 hD1
    clear hP hD hPc hDc hKc hFc hP1 hK1 hD1 hk1 hz1
    generalize H1 = H at hP2 hS ⊢
    have hP : va_P (dC, dI) vwCl (wd_d906eaf1 h0 v0 h1 v1 x2 (-1) 2 h2 h3 h4 r0 r1 r2 r3 v3 v4 r4 r5 r6 r7 v5 r8 r9 v6 v7 r10 r11 v8 v9 r12 v10 v11 r13 v12 w13 r14 v14 v15 r15 r16 r17 r18 r19 r20 v16 r21 r22 r23 v17 h1 g0 f18 h2 g1 f19 h3 g2 f20 h4 g3 f21) H := hP2
    have hD : va_D A (wd_d906eaf1 h0 v0 h1 v1 x2 (-1) 2 h2 h3 h4 r0 r1 r2 r3 v3 v4 r4 r5 r6 r7 v5 r8 r9 v6 v7 r10 r11 v8 v9 r12 v10 v11 r13 v12 w13 r14 v14 v15 r15 r16 r17 r18 r19 r20 v16 r21 r22 r23 v17 h1 g0 f18 h2 g1 f19 h3 g2 f20 h4 g3 f21) := hD2
    clear hP2 hD2
    refine lv_if_eq (tgt := 24) hx hb dX12_atom_9 (by decide) (fun c4 => ?_) (fun c4 => ?_)
    · skip
      have fc4 : ra3.toInt = 0 := congrArg Int32.toInt c4
      refine lv_iload_n hx hb dX12_atom_24 rfl (lv_at hl 0 rfl) ?_
      have hPc := hP.sub (ws' := []) [] rfl
      have hDc := hD.sub (ws' := []) [] (by decide) rfl
      have hKc := hK.sub (tys' := []) [] rfl
      have hFc := va_free (wc := []) hD hS hA [] rfl
      refine va_calli (va_runS (As := [.int (-1)]) (rest := []) ⟨hx, hb, hml, hown, hts⟩ (k_X12_letterOf l dC dI ((-1))  H.size) (va_cwS 1 hts g_X12_atom_4_2 rfl rfl rfl (by decide +kernel) ⟨Nat.le_of_ble_eq_true rfl, Nat.le_of_ble_eq_true rfl⟩) (pv_PS hPc hKc hDc) rfl rfl hl.1 rfl (lv_room (Nat.le_of_ble_eq_true rfl)) dX12_atom_25 ⟨Nat.le_of_ble_eq_true rfl, Nat.le_of_ble_eq_true rfl⟩) hS (fun q _ h => hFc q h) hFc (fun ra5 u t H1 locs ht hvm hwra5 hB hz1 hk1 hS => ?_)
      try rw [hwra5] at hB
      have hkra5_0 : (((-1) : Int32)).toInt = -1 := by decide
      obtain ⟨pt0_ra5, pt1_ra5, pt2_ra5, pt3_ra5, hP1, hK1, hD1⟩ := hB
      rw [ht] at hP1
      obtain ⟨hP2, hD2⟩ := va_join (wr := (wd_d906eaf1 h0 v0 h1 v1 x2 (-1) 2 h2 h3 h4 r0 r1 r2 r3 v3 v4 r4 r5 r6 r7 v5 r8 r9 v6 v7 r10 r11 v8 v9 r12 v10 v11 r13 v12 w13 r14 v14 v15 r15 r16 r17 r18 r19 r20 v16 r21 r22 r23 v17 h1 g0 f18 h2 g1 f19 h3 g2 f20 h4 g3 f21)) (w1 := []) hP hD [] [0, 1, 2, 3, 4] rfl rfl (by decide) (by decide) hk1 hFc hP1 hD1
      clear hP hD hPc hDc hKc hFc hP1 hK1 hD1 hk1 hz1
      generalize H1 = H at hP2 hS ⊢
      have hP : va_P (dC, dI) vwCl (wd_d906eaf1 h0 v0 h1 v1 x2 (-1) 2 h2 h3 h4 r0 r1 r2 r3 v3 v4 r4 r5 r6 r7 v5 r8 r9 v6 v7 r10 r11 v8 v9 r12 v10 v11 r13 v12 w13 r14 v14 v15 r15 r16 r17 r18 r19 r20 v16 r21 r22 r23 v17 h1 g0 f18 h2 g1 f19 h3 g2 f20 h4 g3 f21) H := hP2
      have hD : va_D A (wd_d906eaf1 h0 v0 h1 v1 x2 (-1) 2 h2 h3 h4 r0 r1 r2 r3 v3 v4 r4 r5 r6 r7 v5 r8 r9 v6 v7 r10 r11 v8 v9 r12 v10 v11 r13 v12 w13 r14 v14 v15 r15 r16 r17 r18 r19 r20 v16 r21 r22 r23 v17 h1 g0 f18 h2 g1 f19 h3 g2 f20 h4 g3 f21) := hD2
      clear hP2 hD2
      have hltra5 : pm_lt (pg_ch f18 v1.toInt x2.toInt) = ra5.toInt := by rw [show pg_ch f18 v1.toInt x2.toInt = (((-1) : Int32)).toInt by omega]; omega
      refine lv_iconst (v := (-1)) hx hb dX12_atom_28 (by decide) ?_
      refine lv_icmp_eq (tgt := 54) hx hb dX12_atom_29 (by decide) (fun c6 => ?_) (fun c6 => ?_)
      · skip
        have fc6 : ra5.toInt = (-1) := congrArg Int32.toInt c6
        refine lv_iload_n hx hb dX12_atom_54 rfl (lv_at hl 0 rfl) ?_
        refine lv_bipush (v := 91) hx hb dX12_atom_55 (by decide) ?_
        refine lv_icmp_ne (tgt := 85) hx hb dX12_atom_57 (by decide) (fun _ => ?_) (fun c => absurd c (by decide))
        refine lv_aload_n hx hb dX12_atom_85 rfl (lv_at hl 1 rfl) ?_
        have hPc := hP.sub (ws' := (wd_171f232f h0 v0 h1 v1 x2 (-1) 2 h2 h3 h4 r0 r1 r2 r3 v3 v4 r4 r5 r6 r7 v5 r8 r9 v6 v7 r10 r11 v8 v9 r12 v10 v11 r13 v12 w13 r14 v14 v15 r15 r16 r17 r18 r19 r20 v16 r21 r22 r23 v17)) [0] rfl
        have hDc := hD.sub (ws' := (wd_171f232f h0 v0 h1 v1 x2 (-1) 2 h2 h3 h4 r0 r1 r2 r3 v3 v4 r4 r5 r6 r7 v5 r8 r9 v6 v7 r10 r11 v8 v9 r12 v10 v11 r13 v12 w13 r14 v14 v15 r15 r16 r17 r18 r19 r20 v16 r21 r22 r23 v17)) [0] (by decide) rfl
        have hKc := hK.sub (tys' := []) [] rfl
        have hFc := va_free (wc := (wd_171f232f h0 v0 h1 v1 x2 (-1) 2 h2 h3 h4 r0 r1 r2 r3 v3 v4 r4 r5 r6 r7 v5 r8 r9 v6 v7 r10 r11 v8 v9 r12 v10 v11 r13 v12 w13 r14 v14 v15 r15 r16 r17 r18 r19 r20 v16 r21 r22 r23 v17)) hD hS hA [0] rfl
        refine va_callv (va_runV (As := []) (rest := []) ⟨hx, hb, hml, hown, hts⟩ (k_X12_bad l dC dI h0 v0 h1 v1 x2 2 h2 h3 h4 r0 r1 r2 r3 v3 v4 r4 r5 r6 r7 v5 r8 r9 v6 v7 r10 r11 v8 v9 r12 v10 v11 r13 v12 w13 r14 v14 v15 r15 r16 r17 r18 r19 r20 v16 r21 r22 r23 v17 ⟨i_v1a, i_v1b⟩ ⟨oa_x2, ob_x2⟩ ⟨i_v3a, i_v3b⟩ ⟨i_v4a, i_v4b⟩ ⟨i_v5a, i_v5b⟩ ⟨i_v6a, i_v6b⟩ ⟨i_v7a, i_v7b⟩ ⟨i_v8a, i_v8b⟩ ⟨i_v12a, i_v12b⟩ ⟨i_v16a, i_v16b⟩ ⟨i_v17a, i_v17b⟩ H.size) (cwV 0 hts g_X12_atom_4_3 rfl rfl rfl (by decide +kernel) ⟨Nat.le_of_ble_eq_true rfl, Nat.le_of_ble_eq_true rfl⟩) (pv_PV12 hPc hKc hDc (q0 := 0) rfl) rfl rfl hl.1 rfl (lv_room (Nat.le_of_ble_eq_true rfl)) dX12_atom_86 ⟨Nat.le_of_ble_eq_true rfl, Nat.le_of_ble_eq_true rfl⟩) hS (fun q _ h => hFc q h) hFc (fun u t H1 locs ht hvm hwra7 hB hz1 hk1 hS => ?_)
        have hkra7_0 : ((2 : Int32)).toInt = 2 := by decide
        obtain ⟨x8, oa_x8, ob_x8, pt0_ra7, hP1, hK1, hD1⟩ := hB
        rw [ht] at hP1
        obtain ⟨hP2, hD2⟩ := va_join (wr := (wd_bfe486e6 h1 g0 f18 h2 g1 f19 h3 g2 f20 h4 g3 f21)) (w1 := (wd_171f232f h0 v0 h1 v1 x2 x8 2 h2 h3 h4 r0 r1 r2 r3 v3 v4 r4 r5 r6 r7 v5 r8 r9 v6 v7 r10 r11 v8 v9 r12 v10 v11 r13 v12 w13 r14 v14 v15 r15 r16 r17 r18 r19 r20 v16 r21 r22 r23 v17)) hP hD [0] [1, 2, 3, 4] rfl rfl (by decide) (by decide) hk1 hFc hP1 hD1
        clear hP hD hPc hDc hKc hFc hP1 hK1 hD1 hk1 hz1
        generalize H1 = H at hP2 hS ⊢
        have hP := hP2.sub (ws' := (wd_d906eaf1 h0 v0 h1 v1 x2 x8 2 h2 h3 h4 r0 r1 r2 r3 v3 v4 r4 r5 r6 r7 v5 r8 r9 v6 v7 r10 r11 v8 v9 r12 v10 v11 r13 v12 w13 r14 v14 v15 r15 r16 r17 r18 r19 r20 v16 r21 r22 r23 v17 h1 g0 f18 h2 g1 f19 h3 g2 f20 h4 g3 f21)) [4, 0, 1, 2, 3] rfl
        have hD := hD2.sub (ws' := (wd_d906eaf1 h0 v0 h1 v1 x2 x8 2 h2 h3 h4 r0 r1 r2 r3 v3 v4 r4 r5 r6 r7 v5 r8 r9 v6 v7 r10 r11 v8 v9 r12 v10 v11 r13 v12 w13 r14 v14 v15 r15 r16 r17 r18 r19 r20 v16 r21 r22 r23 v17 h1 g0 f18 h2 g1 f19 h3 g2 f20 h4 g3 f21)) [4, 0, 1, 2, 3] (by decide) rfl
        clear hP2 hD2
        subst hQ
        have hP9 := hP.sub (ws' := (wd_d906eaf1 h0 v0 h1 v1 x2 x8 2 h2 h3 h4 r0 r1 r2 r3 v3 v4 r4 r5 r6 r7 v5 r8 r9 v6 v7 r10 r11 v8 v9 r12 v10 v11 r13 v12 w13 r14 v14 v15 r15 r16 r17 r18 r19 r20 v16 r21 r22 r23 v17 h1 g0 f18 h2 g1 f19 h3 g2 f20 h4 g3 f21)) [0, 1, 2, 3, 4] rfl
        have hD9 := hD.sub (ws' := (wd_d906eaf1 h0 v0 h1 v1 x2 x8 2 h2 h3 h4 r0 r1 r2 r3 v3 v4 r4 r5 r6 r7 v5 r8 r9 v6 v7 r10 r11 v8 v9 r12 v10 v11 r13 v12 w13 r14 v14 v15 r15 r16 r17 r18 r19 r20 v16 r21 r22 r23 v17 h1 g0 f18 h2 g1 f19 h3 g2 f20 h4 g3 f21)) [0, 1, 2, 3, 4] (by decide) rfl
        have hK9 := hK.sub (tys' := []) [] rfl
        exact W.vret hx hb hr (fun t ht hW => ⟨⟨(), rfl, trivial, Or.inr (⟨x2, x8, 2, f19, f20, f21, oa_x2, by first | omega | decide, oa_x8, ob_x8, by constructor <;> omega, by exact hgF, by show pg_atomF f18 v1.toInt true (pg_sum f18 v1.toInt 3) _ = _; first | (apply pg_atomF.num <;> first | assumption | omega) | (apply pg_atomF.par0 <;> first | assumption | omega) | (apply pg_atomF.par1 <;> first | assumption | omega) | (apply pg_atomF.deep <;> first | assumption | omega) | (apply pg_atomF.bad <;> first | assumption | omega), by rw [ht]; exact hP9, va_K.moved hW.alike hK9, hD9⟩)⟩, hS.F ht⟩) hS.2.2 dX12_atom_89
      · skip
        have fc6 : ¬ (ra5.toInt = (-1)) := fun h9 => c6 (Int32.toInt_inj.mp h9)
        exfalso; omega
    · skip
      have fc4 : ¬ (ra3.toInt = 0) := fun h9 => c4 (Int32.toInt_inj.mp h9)
      exfalso; omega
  · skip
    obtain ⟨x9, oa_x9, ob_x9, pt0_ra1, pt1_ra1, pt2_ra1, pt3_ra1, pt4_ra1, pt5_ra1, pt6_ra1, pt7_ra1, hP1, hK1, hD1⟩ := hB
    rw [ht] at hP1
    obtain ⟨hP2, hD2⟩ := va_join (wr := (wd_ad0642e8 h2 g1 f19 h3 g2 f20 h4 g3 f21)) (w1 := (wd_f4cd022e h0 v0 h1 v1 x9 (-1) 2 h2 h3 h4 r0 r1 r2 r3 v3 v4 r4 r5 r6 r7 v5 r8 r9 v6 v7 r10 r11 v8 v9 r12 v10 v11 r13 v12 w13 r14 v14 v15 r15 r16 r17 r18 r19 r20 v16 r21 r22 r23 v17 h1 g0 f18)) hP hD [0, 1] [2, 3, 4] rfl rfl (by decide) (by decide) hk1 hFc hP1 hD1
    clear hP hD hPc hDc hKc hFc hP1 hK1 hD1 hk1 hz1
    generalize H1 = H at hP2 hS ⊢
    have hP := hP2.sub (ws' := (wd_d906eaf1 h0 v0 h1 v1 x9 (-1) 2 h2 h3 h4 r0 r1 r2 r3 v3 v4 r4 r5 r6 r7 v5 r8 r9 v6 v7 r10 r11 v8 v9 r12 v10 v11 r13 v12 w13 r14 v14 v15 r15 r16 r17 r18 r19 r20 v16 r21 r22 r23 v17 h1 g0 f18 h2 g1 f19 h3 g2 f20 h4 g3 f21)) [3, 4, 0, 1, 2] rfl
    have hD := hD2.sub (ws' := (wd_d906eaf1 h0 v0 h1 v1 x9 (-1) 2 h2 h3 h4 r0 r1 r2 r3 v3 v4 r4 r5 r6 r7 v5 r8 r9 v6 v7 r10 r11 v8 v9 r12 v10 v11 r13 v12 w13 r14 v14 v15 r15 r16 r17 r18 r19 r20 v16 r21 r22 r23 v17 h1 g0 f18 h2 g1 f19 h3 g2 f20 h4 g3 f21)) [3, 4, 0, 1, 2] (by decide) rfl
    clear hP2 hD2
    refine lv_istore_n (lv' := [(1, .int ra1), (0, .ref h0)]) hx hb dX12_atom_4 rfl hl (by decide) rfl (fun ls hl => ?_)
    refine lv_iload_n hx hb dX12_atom_5 rfl (lv_at hl 0 rfl) ?_
    have hPc := hP.sub (ws' := []) [] rfl
    have hDc := hD.sub (ws' := []) [] (by decide) rfl
    have hKc := hK.sub (tys' := []) [] rfl
    have hFc := va_free (wc := []) hD hS hA [] rfl
    refine va_calli (va_runS (As := [.int ra1]) (rest := []) ⟨hx, hb, hml, hown, hts⟩ (k_X12_isDigit l dC dI ra1  H.size) (va_cwS 1 hts g_X12_atom_4_1 rfl rfl rfl (by decide +kernel) ⟨Nat.le_of_ble_eq_true rfl, Nat.le_of_ble_eq_true rfl⟩) (pv_PS hPc hKc hDc) rfl rfl hl.1 rfl (lv_room (Nat.le_of_ble_eq_true rfl)) dX12_atom_6 ⟨Nat.le_of_ble_eq_true rfl, Nat.le_of_ble_eq_true rfl⟩) hS (fun q _ h => hFc q h) hFc (fun ra10 u t H1 locs ht hvm hwra10 hB hz1 hk1 hS => ?_)
    try rw [hwra10] at hB
    obtain ⟨pt0_ra10, pt1_ra10, pt2_ra10, pt3_ra10, pt4_ra10, hP1, hK1, hD1⟩ := hB
    rw [ht] at hP1
    obtain ⟨hP2, hD2⟩ := va_join (wr := (wd_d906eaf1 h0 v0 h1 v1 x9 (-1) 2 h2 h3 h4 r0 r1 r2 r3 v3 v4 r4 r5 r6 r7 v5 r8 r9 v6 v7 r10 r11 v8 v9 r12 v10 v11 r13 v12 w13 r14 v14 v15 r15 r16 r17 r18 r19 r20 v16 r21 r22 r23 v17 h1 g0 f18 h2 g1 f19 h3 g2 f20 h4 g3 f21)) (w1 := []) hP hD [] [0, 1, 2, 3, 4] rfl rfl (by decide) (by decide) hk1 hFc hP1 hD1
    clear hP hD hPc hDc hKc hFc hP1 hK1 hD1 hk1 hz1
    generalize H1 = H at hP2 hS ⊢
    have hP : va_P (dC, dI) vwCl (wd_d906eaf1 h0 v0 h1 v1 x9 (-1) 2 h2 h3 h4 r0 r1 r2 r3 v3 v4 r4 r5 r6 r7 v5 r8 r9 v6 v7 r10 r11 v8 v9 r12 v10 v11 r13 v12 w13 r14 v14 v15 r15 r16 r17 r18 r19 r20 v16 r21 r22 r23 v17 h1 g0 f18 h2 g1 f19 h3 g2 f20 h4 g3 f21) H := hP2
    have hD : va_D A (wd_d906eaf1 h0 v0 h1 v1 x9 (-1) 2 h2 h3 h4 r0 r1 r2 r3 v3 v4 r4 r5 r6 r7 v5 r8 r9 v6 v7 r10 r11 v8 v9 r12 v10 v11 r13 v12 w13 r14 v14 v15 r15 r16 r17 r18 r19 r20 v16 r21 r22 r23 v17 h1 g0 f18 h2 g1 f19 h3 g2 f20 h4 g3 f21) := hD2
    clear hP2 hD2
    refine lv_if_eq (tgt := 24) hx hb dX12_atom_9 (by decide) (fun c11 => ?_) (fun c11 => ?_)
    · skip
      have fc11 : ra10.toInt = 0 := congrArg Int32.toInt c11
      refine lv_iload_n hx hb dX12_atom_24 rfl (lv_at hl 0 rfl) ?_
      have hPc := hP.sub (ws' := []) [] rfl
      have hDc := hD.sub (ws' := []) [] (by decide) rfl
      have hKc := hK.sub (tys' := []) [] rfl
      have hFc := va_free (wc := []) hD hS hA [] rfl
      refine va_calli (va_runS (As := [.int ra1]) (rest := []) ⟨hx, hb, hml, hown, hts⟩ (k_X12_letterOf l dC dI ra1  H.size) (va_cwS 1 hts g_X12_atom_4_2 rfl rfl rfl (by decide +kernel) ⟨Nat.le_of_ble_eq_true rfl, Nat.le_of_ble_eq_true rfl⟩) (pv_PS hPc hKc hDc) rfl rfl hl.1 rfl (lv_room (Nat.le_of_ble_eq_true rfl)) dX12_atom_25 ⟨Nat.le_of_ble_eq_true rfl, Nat.le_of_ble_eq_true rfl⟩) hS (fun q _ h => hFc q h) hFc (fun ra12 u t H1 locs ht hvm hwra12 hB hz1 hk1 hS => ?_)
      try rw [hwra12] at hB
      obtain ⟨pt0_ra12, pt1_ra12, pt2_ra12, pt3_ra12, hP1, hK1, hD1⟩ := hB
      rw [ht] at hP1
      obtain ⟨hP2, hD2⟩ := va_join (wr := (wd_d906eaf1 h0 v0 h1 v1 x9 (-1) 2 h2 h3 h4 r0 r1 r2 r3 v3 v4 r4 r5 r6 r7 v5 r8 r9 v6 v7 r10 r11 v8 v9 r12 v10 v11 r13 v12 w13 r14 v14 v15 r15 r16 r17 r18 r19 r20 v16 r21 r22 r23 v17 h1 g0 f18 h2 g1 f19 h3 g2 f20 h4 g3 f21)) (w1 := []) hP hD [] [0, 1, 2, 3, 4] rfl rfl (by decide) (by decide) hk1 hFc hP1 hD1
      clear hP hD hPc hDc hKc hFc hP1 hK1 hD1 hk1 hz1
      generalize H1 = H at hP2 hS ⊢
      have hP : va_P (dC, dI) vwCl (wd_d906eaf1 h0 v0 h1 v1 x9 (-1) 2 h2 h3 h4 r0 r1 r2 r3 v3 v4 r4 r5 r6 r7 v5 r8 r9 v6 v7 r10 r11 v8 v9 r12 v10 v11 r13 v12 w13 r14 v14 v15 r15 r16 r17 r18 r19 r20 v16 r21 r22 r23 v17 h1 g0 f18 h2 g1 f19 h3 g2 f20 h4 g3 f21) H := hP2
      have hD : va_D A (wd_d906eaf1 h0 v0 h1 v1 x9 (-1) 2 h2 h3 h4 r0 r1 r2 r3 v3 v4 r4 r5 r6 r7 v5 r8 r9 v6 v7 r10 r11 v8 v9 r12 v10 v11 r13 v12 w13 r14 v14 v15 r15 r16 r17 r18 r19 r20 v16 r21 r22 r23 v17 h1 g0 f18 h2 g1 f19 h3 g2 f20 h4 g3 f21) := hD2
      clear hP2 hD2
      have hltra12 : pm_lt (pg_ch f18 v1.toInt x9.toInt) = ra12.toInt := by rw [show pg_ch f18 v1.toInt x9.toInt = ra1.toInt by omega]; omega
      refine lv_iconst (v := (-1)) hx hb dX12_atom_28 (by decide) ?_
      refine lv_icmp_eq (tgt := 54) hx hb dX12_atom_29 (by decide) (fun c13 => ?_) (fun c13 => ?_)
      · skip
        have fc13 : ra12.toInt = (-1) := congrArg Int32.toInt c13
        refine lv_iload_n hx hb dX12_atom_54 rfl (lv_at hl 0 rfl) ?_
        refine lv_bipush (v := 91) hx hb dX12_atom_55 (by decide) ?_
        refine lv_icmp_ne (tgt := 85) hx hb dX12_atom_57 (by decide) (fun c14 => ?_) (fun c14 => ?_)
        · skip
          have fc14 : ¬ (ra1.toInt = 91) := fun h9 => c14 (Int32.toInt_inj.mp h9)
          refine lv_aload_n hx hb dX12_atom_85 rfl (lv_at hl 1 rfl) ?_
          have hPc := hP.sub (ws' := (wd_171f232f h0 v0 h1 v1 x9 (-1) 2 h2 h3 h4 r0 r1 r2 r3 v3 v4 r4 r5 r6 r7 v5 r8 r9 v6 v7 r10 r11 v8 v9 r12 v10 v11 r13 v12 w13 r14 v14 v15 r15 r16 r17 r18 r19 r20 v16 r21 r22 r23 v17)) [0] rfl
          have hDc := hD.sub (ws' := (wd_171f232f h0 v0 h1 v1 x9 (-1) 2 h2 h3 h4 r0 r1 r2 r3 v3 v4 r4 r5 r6 r7 v5 r8 r9 v6 v7 r10 r11 v8 v9 r12 v10 v11 r13 v12 w13 r14 v14 v15 r15 r16 r17 r18 r19 r20 v16 r21 r22 r23 v17)) [0] (by decide) rfl
          have hKc := hK.sub (tys' := []) [] rfl
          have hFc := va_free (wc := (wd_171f232f h0 v0 h1 v1 x9 (-1) 2 h2 h3 h4 r0 r1 r2 r3 v3 v4 r4 r5 r6 r7 v5 r8 r9 v6 v7 r10 r11 v8 v9 r12 v10 v11 r13 v12 w13 r14 v14 v15 r15 r16 r17 r18 r19 r20 v16 r21 r22 r23 v17)) hD hS hA [0] rfl
          refine va_callv (va_runV (As := []) (rest := []) ⟨hx, hb, hml, hown, hts⟩ (k_X12_bad l dC dI h0 v0 h1 v1 x9 2 h2 h3 h4 r0 r1 r2 r3 v3 v4 r4 r5 r6 r7 v5 r8 r9 v6 v7 r10 r11 v8 v9 r12 v10 v11 r13 v12 w13 r14 v14 v15 r15 r16 r17 r18 r19 r20 v16 r21 r22 r23 v17 ⟨i_v1a, i_v1b⟩ ⟨oa_x9, by first | omega | decide⟩ ⟨i_v3a, i_v3b⟩ ⟨i_v4a, i_v4b⟩ ⟨i_v5a, i_v5b⟩ ⟨i_v6a, i_v6b⟩ ⟨i_v7a, i_v7b⟩ ⟨i_v8a, i_v8b⟩ ⟨i_v12a, i_v12b⟩ ⟨i_v16a, i_v16b⟩ ⟨i_v17a, i_v17b⟩ H.size) (cwV 0 hts g_X12_atom_4_3 rfl rfl rfl (by decide +kernel) ⟨Nat.le_of_ble_eq_true rfl, Nat.le_of_ble_eq_true rfl⟩) (pv_PV12 hPc hKc hDc (q0 := 0) rfl) rfl rfl hl.1 rfl (lv_room (Nat.le_of_ble_eq_true rfl)) dX12_atom_86 ⟨Nat.le_of_ble_eq_true rfl, Nat.le_of_ble_eq_true rfl⟩) hS (fun q _ h => hFc q h) hFc (fun u t H1 locs ht hvm hwra15 hB hz1 hk1 hS => ?_)
          have hkra15_0 : ((2 : Int32)).toInt = 2 := by decide
          obtain ⟨x16, oa_x16, ob_x16, pt0_ra15, hP1, hK1, hD1⟩ := hB
          rw [ht] at hP1
          obtain ⟨hP2, hD2⟩ := va_join (wr := (wd_bfe486e6 h1 g0 f18 h2 g1 f19 h3 g2 f20 h4 g3 f21)) (w1 := (wd_171f232f h0 v0 h1 v1 x9 x16 2 h2 h3 h4 r0 r1 r2 r3 v3 v4 r4 r5 r6 r7 v5 r8 r9 v6 v7 r10 r11 v8 v9 r12 v10 v11 r13 v12 w13 r14 v14 v15 r15 r16 r17 r18 r19 r20 v16 r21 r22 r23 v17)) hP hD [0] [1, 2, 3, 4] rfl rfl (by decide) (by decide) hk1 hFc hP1 hD1
          clear hP hD hPc hDc hKc hFc hP1 hK1 hD1 hk1 hz1
          generalize H1 = H at hP2 hS ⊢
          have hP := hP2.sub (ws' := (wd_d906eaf1 h0 v0 h1 v1 x9 x16 2 h2 h3 h4 r0 r1 r2 r3 v3 v4 r4 r5 r6 r7 v5 r8 r9 v6 v7 r10 r11 v8 v9 r12 v10 v11 r13 v12 w13 r14 v14 v15 r15 r16 r17 r18 r19 r20 v16 r21 r22 r23 v17 h1 g0 f18 h2 g1 f19 h3 g2 f20 h4 g3 f21)) [4, 0, 1, 2, 3] rfl
          have hD := hD2.sub (ws' := (wd_d906eaf1 h0 v0 h1 v1 x9 x16 2 h2 h3 h4 r0 r1 r2 r3 v3 v4 r4 r5 r6 r7 v5 r8 r9 v6 v7 r10 r11 v8 v9 r12 v10 v11 r13 v12 w13 r14 v14 v15 r15 r16 r17 r18 r19 r20 v16 r21 r22 r23 v17 h1 g0 f18 h2 g1 f19 h3 g2 f20 h4 g3 f21)) [4, 0, 1, 2, 3] (by decide) rfl
          clear hP2 hD2
          subst hQ
          have hP9 := hP.sub (ws' := (wd_d906eaf1 h0 v0 h1 v1 x9 x16 2 h2 h3 h4 r0 r1 r2 r3 v3 v4 r4 r5 r6 r7 v5 r8 r9 v6 v7 r10 r11 v8 v9 r12 v10 v11 r13 v12 w13 r14 v14 v15 r15 r16 r17 r18 r19 r20 v16 r21 r22 r23 v17 h1 g0 f18 h2 g1 f19 h3 g2 f20 h4 g3 f21)) [0, 1, 2, 3, 4] rfl
          have hD9 := hD.sub (ws' := (wd_d906eaf1 h0 v0 h1 v1 x9 x16 2 h2 h3 h4 r0 r1 r2 r3 v3 v4 r4 r5 r6 r7 v5 r8 r9 v6 v7 r10 r11 v8 v9 r12 v10 v11 r13 v12 w13 r14 v14 v15 r15 r16 r17 r18 r19 r20 v16 r21 r22 r23 v17 h1 g0 f18 h2 g1 f19 h3 g2 f20 h4 g3 f21)) [0, 1, 2, 3, 4] (by decide) rfl
          have hK9 := hK.sub (tys' := []) [] rfl
          exact W.vret hx hb hr (fun t ht hW => ⟨⟨(), rfl, trivial, Or.inr (⟨x9, x16, 2, f19, f20, f21, oa_x9, by first | omega | decide, oa_x16, ob_x16, by constructor <;> omega, by exact hgF, by show pg_atomF f18 v1.toInt true (pg_sum f18 v1.toInt 3) _ = _; first | (apply pg_atomF.num <;> first | assumption | omega) | (apply pg_atomF.par0 <;> first | assumption | omega) | (apply pg_atomF.par1 <;> first | assumption | omega) | (apply pg_atomF.deep <;> first | assumption | omega) | (apply pg_atomF.bad <;> first | assumption | omega), by rw [ht]; exact hP9, va_K.moved hW.alike hK9, hD9⟩)⟩, hS.F ht⟩) hS.2.2 dX12_atom_89
        · skip
          have fc14 : ra1.toInt = 91 := congrArg Int32.toInt c14
          refine lv_aload_n hx hb dX12_atom_60 rfl (lv_at hl 1 rfl) ?_
          have hPc := hP.sub (ws' := (wd_171f232f h0 v0 h1 v1 x9 (-1) 2 h2 h3 h4 r0 r1 r2 r3 v3 v4 r4 r5 r6 r7 v5 r8 r9 v6 v7 r10 r11 v8 v9 r12 v10 v11 r13 v12 w13 r14 v14 v15 r15 r16 r17 r18 r19 r20 v16 r21 r22 r23 v17)) [0] rfl
          have hDc := hD.sub (ws' := (wd_171f232f h0 v0 h1 v1 x9 (-1) 2 h2 h3 h4 r0 r1 r2 r3 v3 v4 r4 r5 r6 r7 v5 r8 r9 v6 v7 r10 r11 v8 v9 r12 v10 v11 r13 v12 w13 r14 v14 v15 r15 r16 r17 r18 r19 r20 v16 r21 r22 r23 v17)) [0] (by decide) rfl
          have hKc := hK.sub (tys' := []) [] rfl
          have hFc := va_free (wc := (wd_171f232f h0 v0 h1 v1 x9 (-1) 2 h2 h3 h4 r0 r1 r2 r3 v3 v4 r4 r5 r6 r7 v5 r8 r9 v6 v7 r10 r11 v8 v9 r12 v10 v11 r13 v12 w13 r14 v14 v15 r15 r16 r17 r18 r19 r20 v16 r21 r22 r23 v17)) hD hS hA [0] rfl
          refine va_callv (va_runV (As := []) (rest := []) ⟨hx, hb, hml, hown, hts⟩ (k_X12_opens_4 l dC dI h0 v0 h1 v1 x9 h2 h3 h4 r0 r1 r2 r3 v3 v4 r4 r5 r6 r7 v5 r8 r9 v6 v7 r10 r11 v8 v9 r12 v10 v11 r13 v12 w13 r14 v14 v15 r15 r16 r17 r18 r19 r20 v16 r21 r22 r23 v17 ⟨i_v1a, i_v1b⟩ ⟨oa_x9, ob_x9⟩ ⟨i_v3a, i_v3b⟩ ⟨i_v4a, i_v4b⟩ ⟨i_v5a, i_v5b⟩ ⟨i_v6a, i_v6b⟩ ⟨i_v7a, i_v7b⟩ ⟨i_v8a, i_v8b⟩ ⟨i_v12a, i_v12b⟩ ⟨i_v16a, i_v16b⟩ ⟨i_v17a, i_v17b⟩ H.size) (cwV 0 hts g_X12_atom_4_7 rfl rfl rfl (by decide +kernel) ⟨Nat.le_of_ble_eq_true rfl, Nat.le_of_ble_eq_true rfl⟩) (pv_PV12 hPc hKc hDc (q0 := 0) rfl) rfl rfl hl.1 rfl (lv_room (Nat.le_of_ble_eq_true rfl)) dX12_atom_61 ⟨Nat.le_of_ble_eq_true rfl, Nat.le_of_ble_eq_true rfl⟩) hS (fun q _ h => hFc q h) hFc (fun u t H1 locs ht hvm hwra17 hB hz1 hk1 hS => ?_)
          obtain ⟨x18, oa_x18, ob_x18, pt0_ra17, hP1, hK1, hD1⟩ := hB
          rw [ht] at hP1
          obtain ⟨hP2, hD2⟩ := va_join (wr := (wd_bfe486e6 h1 g0 f18 h2 g1 f19 h3 g2 f20 h4 g3 f21)) (w1 := (wd_171f232f h0 v0 h1 v1 x18 (-1) 3 h2 h3 h4 r0 r1 r2 r3 v3 v4 r4 r5 r6 r7 v5 r8 r9 v6 v7 r10 r11 v8 v9 r12 v10 v11 r13 v12 w13 r14 v14 v15 r15 r16 r17 r18 r19 r20 v16 r21 r22 r23 v17)) hP hD [0] [1, 2, 3, 4] rfl rfl (by decide) (by decide) hk1 hFc hP1 hD1
          clear hP hD hPc hDc hKc hFc hP1 hK1 hD1 hk1 hz1
          generalize H1 = H at hP2 hS ⊢
          have hP := hP2.sub (ws' := (wd_d906eaf1 h0 v0 h1 v1 x18 (-1) 3 h2 h3 h4 r0 r1 r2 r3 v3 v4 r4 r5 r6 r7 v5 r8 r9 v6 v7 r10 r11 v8 v9 r12 v10 v11 r13 v12 w13 r14 v14 v15 r15 r16 r17 r18 r19 r20 v16 r21 r22 r23 v17 h1 g0 f18 h2 g1 f19 h3 g2 f20 h4 g3 f21)) [4, 0, 1, 2, 3] rfl
          have hD := hD2.sub (ws' := (wd_d906eaf1 h0 v0 h1 v1 x18 (-1) 3 h2 h3 h4 r0 r1 r2 r3 v3 v4 r4 r5 r6 r7 v5 r8 r9 v6 v7 r10 r11 v8 v9 r12 v10 v11 r13 v12 w13 r14 v14 v15 r15 r16 r17 r18 r19 r20 v16 r21 r22 r23 v17 h1 g0 f18 h2 g1 f19 h3 g2 f20 h4 g3 f21)) [4, 0, 1, 2, 3] (by decide) rfl
          clear hP2 hD2
          refine lv_aload_n hx hb dX12_atom_64 rfl (lv_at hl 1 rfl) ?_
          refine va_get (D := (dC, dI)) (ci := 12) (v := .int (-1)) (C := RX12) (T := TX12) (N := 48) hx hb hts (fun _ h => List.mem_cons_of_mem _ (List.mem_append_right _ h)) hown hK hP 0 rfl rfl 4 (by decide) (hts (.fieldLink RX12 119 "LeftArgumentsModel" "wrong" "I") (List.mem_cons_of_mem _ (List.mem_append_left _ (List.mem_of_getElem? (i := 19) rfl)))) (fun _ h9 => h9) rfl dX12_atom_65 ?_
          refine lv_iconst (v := (-1)) hx hb dX12_atom_68 (by decide) ?_
          refine lv_icmp_ne (tgt := 89) hx hb dX12_atom_69 (by decide) (fun c => absurd (by decide) c) (fun _ => ?_)
          refine lv_aload_n hx hb dX12_atom_72 rfl (lv_at hl 1 rfl) ?_
          have hPc := hP.sub (ws' := (wd_d906eaf1 h0 v0 h1 v1 x18 (-1) 3 h2 h3 h4 r0 r1 r2 r3 v3 v4 r4 r5 r6 r7 v5 r8 r9 v6 v7 r10 r11 v8 v9 r12 v10 v11 r13 v12 w13 r14 v14 v15 r15 r16 r17 r18 r19 r20 v16 r21 r22 r23 v17 h1 g0 f18 h2 g1 f19 h3 g2 f20 h4 g3 f21)) [0, 1, 2, 3, 4] rfl
          have hDc := hD.sub (ws' := (wd_d906eaf1 h0 v0 h1 v1 x18 (-1) 3 h2 h3 h4 r0 r1 r2 r3 v3 v4 r4 r5 r6 r7 v5 r8 r9 v6 v7 r10 r11 v8 v9 r12 v10 v11 r13 v12 w13 r14 v14 v15 r15 r16 r17 r18 r19 r20 v16 r21 r22 r23 v17 h1 g0 f18 h2 g1 f19 h3 g2 f20 h4 g3 f21)) [0, 1, 2, 3, 4] (by decide) rfl
          have hKc := hK.sub (tys' := [(g0, .int), (g1, .int), (g2, .int), (g3, .int)]) [0, 1, 2, 3] rfl
          have hFc := va_free (wc := (wd_d906eaf1 h0 v0 h1 v1 x18 (-1) 3 h2 h3 h4 r0 r1 r2 r3 v3 v4 r4 r5 r6 r7 v5 r8 r9 v6 v7 r10 r11 v8 v9 r12 v10 v11 r13 v12 w13 r14 v14 v15 r15 r16 r17 r18 r19 r20 v16 r21 r22 r23 v17 h1 g0 f18 h2 g1 f19 h3 g2 f20 h4 g3 f21)) hD hS hA [0, 1, 2, 3, 4] rfl
          refine va_callv (va_runV (As := []) (rest := []) ⟨hx, hb, hml, hown, hts⟩ (k_X12_sum_3 l dC dI h0 h1 h2 h3 h4 v0 v1 x18 r0 r1 r2 r3 v3 v4 r4 r5 r6 r7 v5 r8 r9 v6 v7 r10 r11 v8 v9 r12 v10 v11 r13 v12 w13 r14 v14 v15 r15 r16 r17 r18 r19 r20 v16 r21 r22 r23 v17 g0 f18 g1 f19 g2 f20 g3 f21 ⟨i_v1a, i_v1b⟩ ⟨by first | omega | decide, ob_x18⟩ ⟨i_v3a, i_v3b⟩ ⟨i_v4a, i_v4b⟩ ⟨i_v5a, i_v5b⟩ ⟨i_v6a, i_v6b⟩ ⟨i_v7a, i_v7b⟩ ⟨i_v8a, i_v8b⟩ ⟨i_v12a, i_v12b⟩ ⟨i_v16a, i_v16b⟩ ⟨i_v17a, i_v17b⟩ ia_f18 (by constructor <;> omega) H.size) (cwV 0 hts g_X12_atom_4_8 rfl rfl rfl (by decide +kernel) ⟨Nat.le_of_ble_eq_true rfl, Nat.le_of_ble_eq_true rfl⟩) (pv_PV12 hPc hKc hDc (q0 := 0) rfl) rfl rfl hl.1 rfl (lv_room (Nat.le_of_ble_eq_true rfl)) dX12_atom_73 ⟨Nat.le_of_ble_eq_true rfl, Nat.le_of_ble_eq_true rfl⟩) hS (fun q _ h => hFc q h) hFc (fun u t H1 locs ht hvm hwra19 hB hz1 hk1 hS => ?_)
          rcases hB with hB | hB
          · skip
            obtain ⟨x20, fn21, fn22, fn23, oa_x20, ob_x20, pt0_ra19, pt1_ra19, pt2_ra19, hP1, hK1, hD1⟩ := hB
            rw [ht] at hP1
            obtain ⟨hP2, hD2⟩ := va_join (wr := []) (w1 := (wd_d906eaf1 h0 v0 h1 v1 x20 (-1) 3 h2 h3 h4 r0 r1 r2 r3 v3 v4 r4 r5 r6 r7 v5 r8 r9 v6 v7 r10 r11 v8 v9 r12 v10 v11 r13 v12 w13 r14 v14 v15 r15 r16 r17 r18 r19 r20 v16 r21 r22 r23 v17 h1 g0 f18 h2 g1 fn21 h3 g2 fn22 h4 g3 fn23)) hP hD [0, 1, 2, 3, 4] [] rfl rfl (by decide) (by decide) hk1 hFc hP1 hD1
            clear hP hD hPc hDc hKc hFc hP1 hK1 hD1 hk1 hz1
            generalize H1 = H at hP2 hS ⊢
            have hP : va_P (dC, dI) vwCl (wd_d906eaf1 h0 v0 h1 v1 x20 (-1) 3 h2 h3 h4 r0 r1 r2 r3 v3 v4 r4 r5 r6 r7 v5 r8 r9 v6 v7 r10 r11 v8 v9 r12 v10 v11 r13 v12 w13 r14 v14 v15 r15 r16 r17 r18 r19 r20 v16 r21 r22 r23 v17 h1 g0 f18 h2 g1 fn21 h3 g2 fn22 h4 g3 fn23) H := hP2
            have hD : va_D A (wd_d906eaf1 h0 v0 h1 v1 x20 (-1) 3 h2 h3 h4 r0 r1 r2 r3 v3 v4 r4 r5 r6 r7 v5 r8 r9 v6 v7 r10 r11 v8 v9 r12 v10 v11 r13 v12 w13 r14 v14 v15 r15 r16 r17 r18 r19 r20 v16 r21 r22 r23 v17 h1 g0 f18 h2 g1 fn21 h3 g2 fn22 h4 g3 fn23) := hD2
            clear hP2 hD2
            have hgR := hgR.app (k' := 1) (D := 9) pt1_ra19 (by decide) (by decide) (by decide) (by decide)
            have hgF := hgR.1
            have hxl := hgF.1
            refine lv_aload_n hx hb dX12_atom_76 rfl (lv_at hl 1 rfl) ?_
            refine lv_bipush (v := 93) hx hb dX12_atom_77 (by decide) ?_
            have hPc := hP.sub (ws' := (wd_f4cd022e h0 v0 h1 v1 x20 (-1) 3 h2 h3 h4 r0 r1 r2 r3 v3 v4 r4 r5 r6 r7 v5 r8 r9 v6 v7 r10 r11 v8 v9 r12 v10 v11 r13 v12 w13 r14 v14 v15 r15 r16 r17 r18 r19 r20 v16 r21 r22 r23 v17 h1 g0 f18)) [0, 1] rfl
            have hDc := hD.sub (ws' := (wd_f4cd022e h0 v0 h1 v1 x20 (-1) 3 h2 h3 h4 r0 r1 r2 r3 v3 v4 r4 r5 r6 r7 v5 r8 r9 v6 v7 r10 r11 v8 v9 r12 v10 v11 r13 v12 w13 r14 v14 v15 r15 r16 r17 r18 r19 r20 v16 r21 r22 r23 v17 h1 g0 f18)) [0, 1] (by decide) rfl
            have hKc := hK.sub (tys' := [(g0, .int)]) [0] rfl
            have hFc := va_free (wc := (wd_f4cd022e h0 v0 h1 v1 x20 (-1) 3 h2 h3 h4 r0 r1 r2 r3 v3 v4 r4 r5 r6 r7 v5 r8 r9 v6 v7 r10 r11 v8 v9 r12 v10 v11 r13 v12 w13 r14 v14 v15 r15 r16 r17 r18 r19 r20 v16 r21 r22 r23 v17 h1 g0 f18)) hD hS hA [0, 1] rfl
            refine va_callv (va_runV (As := [.int 93]) (rest := []) ⟨hx, hb, hml, hown, hts⟩ (k_X12_closes_8 l dC dI h0 h1 v0 v1 x20 h2 h3 h4 r0 r1 r2 r3 v3 v4 r4 r5 r6 r7 v5 r8 r9 v6 v7 r10 r11 v8 v9 r12 v10 v11 r13 v12 w13 r14 v14 v15 r15 r16 r17 r18 r19 r20 v16 r21 r22 r23 v17 g0 f18 ⟨i_v1a, i_v1b⟩ ⟨oa_x20, ob_x20⟩ ⟨i_v3a, i_v3b⟩ ⟨i_v4a, i_v4b⟩ ⟨i_v5a, i_v5b⟩ ⟨i_v6a, i_v6b⟩ ⟨i_v7a, i_v7b⟩ ⟨i_v8a, i_v8b⟩ ⟨i_v12a, i_v12b⟩ ⟨i_v16a, i_v16b⟩ ⟨i_v17a, i_v17b⟩ ia_f18 H.size) (cwV 1 hts g_X12_atom_4_9 rfl rfl rfl (by decide +kernel) ⟨Nat.le_of_ble_eq_true rfl, Nat.le_of_ble_eq_true rfl⟩) (pv_PV12 hPc hKc hDc (q0 := 0) rfl) rfl rfl hl.1 rfl (lv_room (Nat.le_of_ble_eq_true rfl)) dX12_atom_79 ⟨Nat.le_of_ble_eq_true rfl, Nat.le_of_ble_eq_true rfl⟩) hS (fun q _ h => hFc q h) hFc (fun u t H1 locs ht hvm hwra24 hB hz1 hk1 hS => ?_)
            rcases hB with hB | hB
            · skip
              obtain ⟨x25, oa_x25, ob_x25, pt0_ra24, pt1_ra24, hP1, hK1, hD1⟩ := hB
              rw [ht] at hP1
              obtain ⟨hP2, hD2⟩ := va_join (wr := (wd_ad0642e8 h2 g1 fn21 h3 g2 fn22 h4 g3 fn23)) (w1 := (wd_f4cd022e h0 v0 h1 v1 x25 (-1) 2 h2 h3 h4 r0 r1 r2 r3 v3 v4 r4 r5 r6 r7 v5 r8 r9 v6 v7 r10 r11 v8 v9 r12 v10 v11 r13 v12 w13 r14 v14 v15 r15 r16 r17 r18 r19 r20 v16 r21 r22 r23 v17 h1 g0 f18)) hP hD [0, 1] [2, 3, 4] rfl rfl (by decide) (by decide) hk1 hFc hP1 hD1
              clear hP hD hPc hDc hKc hFc hP1 hK1 hD1 hk1 hz1
              generalize H1 = H at hP2 hS ⊢
              have hP := hP2.sub (ws' := (wd_d906eaf1 h0 v0 h1 v1 x25 (-1) 2 h2 h3 h4 r0 r1 r2 r3 v3 v4 r4 r5 r6 r7 v5 r8 r9 v6 v7 r10 r11 v8 v9 r12 v10 v11 r13 v12 w13 r14 v14 v15 r15 r16 r17 r18 r19 r20 v16 r21 r22 r23 v17 h1 g0 f18 h2 g1 fn21 h3 g2 fn22 h4 g3 fn23)) [3, 4, 0, 1, 2] rfl
              have hD := hD2.sub (ws' := (wd_d906eaf1 h0 v0 h1 v1 x25 (-1) 2 h2 h3 h4 r0 r1 r2 r3 v3 v4 r4 r5 r6 r7 v5 r8 r9 v6 v7 r10 r11 v8 v9 r12 v10 v11 r13 v12 w13 r14 v14 v15 r15 r16 r17 r18 r19 r20 v16 r21 r22 r23 v17 h1 g0 f18 h2 g1 fn21 h3 g2 fn22 h4 g3 fn23)) [3, 4, 0, 1, 2] (by decide) rfl
              clear hP2 hD2
              refine lv_goto (tgt := 89) hx hb dX12_atom_82 (by decide) ?_
              subst hQ
              have hP9 := hP.sub (ws' := (wd_d906eaf1 h0 v0 h1 v1 x25 (-1) 2 h2 h3 h4 r0 r1 r2 r3 v3 v4 r4 r5 r6 r7 v5 r8 r9 v6 v7 r10 r11 v8 v9 r12 v10 v11 r13 v12 w13 r14 v14 v15 r15 r16 r17 r18 r19 r20 v16 r21 r22 r23 v17 h1 g0 f18 h2 g1 fn21 h3 g2 fn22 h4 g3 fn23)) [0, 1, 2, 3, 4] rfl
              have hD9 := hD.sub (ws' := (wd_d906eaf1 h0 v0 h1 v1 x25 (-1) 2 h2 h3 h4 r0 r1 r2 r3 v3 v4 r4 r5 r6 r7 v5 r8 r9 v6 v7 r10 r11 v8 v9 r12 v10 v11 r13 v12 w13 r14 v14 v15 r15 r16 r17 r18 r19 r20 v16 r21 r22 r23 v17 h1 g0 f18 h2 g1 fn21 h3 g2 fn22 h4 g3 fn23)) [0, 1, 2, 3, 4] (by decide) rfl
              have hK9 := hK.sub (tys' := []) [] rfl
              exact W.vret hx hb hr (fun t ht hW => ⟨⟨(), rfl, trivial, Or.inl ⟨x25, fn21, fn22, fn23, by first | omega | decide, ob_x25, by constructor <;> omega, by exact hgR.mono (by decide), by show pg_atomF f18 v1.toInt true (pg_sum f18 v1.toInt 3) _ = _; first | (apply pg_atomF.num <;> first | assumption | omega) | (apply pg_atomF.lt <;> first | assumption | omega) | (apply pg_atomF.par1 <;> first | assumption | omega), by rw [ht]; exact hP9, va_K.moved hW.alike hK9, hD9⟩⟩, hS.F ht⟩) hS.2.2 dX12_atom_89
            · skip
              obtain ⟨x26, x27, oa_x26, ob_x26, oa_x27, ob_x27, pt0_ra24, pt1_ra24, hP1, hK1, hD1⟩ := hB
              rw [ht] at hP1
              obtain ⟨hP2, hD2⟩ := va_join (wr := (wd_ad0642e8 h2 g1 fn21 h3 g2 fn22 h4 g3 fn23)) (w1 := (wd_f4cd022e h0 v0 h1 v1 x26 x27 2 h2 h3 h4 r0 r1 r2 r3 v3 v4 r4 r5 r6 r7 v5 r8 r9 v6 v7 r10 r11 v8 v9 r12 v10 v11 r13 v12 w13 r14 v14 v15 r15 r16 r17 r18 r19 r20 v16 r21 r22 r23 v17 h1 g0 f18)) hP hD [0, 1] [2, 3, 4] rfl rfl (by decide) (by decide) hk1 hFc hP1 hD1
              clear hP hD hPc hDc hKc hFc hP1 hK1 hD1 hk1 hz1
              generalize H1 = H at hP2 hS ⊢
              have hP := hP2.sub (ws' := (wd_d906eaf1 h0 v0 h1 v1 x26 x27 2 h2 h3 h4 r0 r1 r2 r3 v3 v4 r4 r5 r6 r7 v5 r8 r9 v6 v7 r10 r11 v8 v9 r12 v10 v11 r13 v12 w13 r14 v14 v15 r15 r16 r17 r18 r19 r20 v16 r21 r22 r23 v17 h1 g0 f18 h2 g1 fn21 h3 g2 fn22 h4 g3 fn23)) [3, 4, 0, 1, 2] rfl
              have hD := hD2.sub (ws' := (wd_d906eaf1 h0 v0 h1 v1 x26 x27 2 h2 h3 h4 r0 r1 r2 r3 v3 v4 r4 r5 r6 r7 v5 r8 r9 v6 v7 r10 r11 v8 v9 r12 v10 v11 r13 v12 w13 r14 v14 v15 r15 r16 r17 r18 r19 r20 v16 r21 r22 r23 v17 h1 g0 f18 h2 g1 fn21 h3 g2 fn22 h4 g3 fn23)) [3, 4, 0, 1, 2] (by decide) rfl
              clear hP2 hD2
              refine lv_goto (tgt := 89) hx hb dX12_atom_82 (by decide) ?_
              subst hQ
              have hP9 := hP.sub (ws' := (wd_d906eaf1 h0 v0 h1 v1 x26 x27 2 h2 h3 h4 r0 r1 r2 r3 v3 v4 r4 r5 r6 r7 v5 r8 r9 v6 v7 r10 r11 v8 v9 r12 v10 v11 r13 v12 w13 r14 v14 v15 r15 r16 r17 r18 r19 r20 v16 r21 r22 r23 v17 h1 g0 f18 h2 g1 fn21 h3 g2 fn22 h4 g3 fn23)) [0, 1, 2, 3, 4] rfl
              have hD9 := hD.sub (ws' := (wd_d906eaf1 h0 v0 h1 v1 x26 x27 2 h2 h3 h4 r0 r1 r2 r3 v3 v4 r4 r5 r6 r7 v5 r8 r9 v6 v7 r10 r11 v8 v9 r12 v10 v11 r13 v12 w13 r14 v14 v15 r15 r16 r17 r18 r19 r20 v16 r21 r22 r23 v17 h1 g0 f18 h2 g1 fn21 h3 g2 fn22 h4 g3 fn23)) [0, 1, 2, 3, 4] (by decide) rfl
              have hK9 := hK.sub (tys' := []) [] rfl
              exact W.vret hx hb hr (fun t ht hW => ⟨⟨(), rfl, trivial, Or.inr (⟨x26, x27, 2, fn21, fn22, fn23, by first | omega | decide, by first | omega | decide, oa_x27, ob_x27, by constructor <;> omega, by exact hgF, by show pg_atomF f18 v1.toInt true (pg_sum f18 v1.toInt 3) _ = _; first | (apply pg_atomF.num <;> first | assumption | omega) | (apply pg_atomF.par0 <;> first | assumption | omega) | (apply pg_atomF.par1 <;> first | assumption | omega) | (apply pg_atomF.deep <;> first | assumption | omega) | (apply pg_atomF.bad <;> first | assumption | omega), by rw [ht]; exact hP9, va_K.moved hW.alike hK9, hD9⟩)⟩, hS.F ht⟩) hS.2.2 dX12_atom_89
          · skip
            obtain ⟨x28, x29, x30, fn31, fn32, fn33, oa_x28, ob_x28, oa_x29, ob_x29, pt0_ra19, pt1_ra19, pt2_ra19, hP1, hK1, hD1⟩ := hB
            rw [ht] at hP1
            obtain ⟨hP2, hD2⟩ := va_join (wr := []) (w1 := (wd_d906eaf1 h0 v0 h1 v1 x28 x29 x30 h2 h3 h4 r0 r1 r2 r3 v3 v4 r4 r5 r6 r7 v5 r8 r9 v6 v7 r10 r11 v8 v9 r12 v10 v11 r13 v12 w13 r14 v14 v15 r15 r16 r17 r18 r19 r20 v16 r21 r22 r23 v17 h1 g0 f18 h2 g1 fn31 h3 g2 fn32 h4 g3 fn33)) hP hD [0, 1, 2, 3, 4] [] rfl rfl (by decide) (by decide) hk1 hFc hP1 hD1
            clear hP hD hPc hDc hKc hFc hP1 hK1 hD1 hk1 hz1
            generalize H1 = H at hP2 hS ⊢
            have hP : va_P (dC, dI) vwCl (wd_d906eaf1 h0 v0 h1 v1 x28 x29 x30 h2 h3 h4 r0 r1 r2 r3 v3 v4 r4 r5 r6 r7 v5 r8 r9 v6 v7 r10 r11 v8 v9 r12 v10 v11 r13 v12 w13 r14 v14 v15 r15 r16 r17 r18 r19 r20 v16 r21 r22 r23 v17 h1 g0 f18 h2 g1 fn31 h3 g2 fn32 h4 g3 fn33) H := hP2
            have hD : va_D A (wd_d906eaf1 h0 v0 h1 v1 x28 x29 x30 h2 h3 h4 r0 r1 r2 r3 v3 v4 r4 r5 r6 r7 v5 r8 r9 v6 v7 r10 r11 v8 v9 r12 v10 v11 r13 v12 w13 r14 v14 v15 r15 r16 r17 r18 r19 r20 v16 r21 r22 r23 v17 h1 g0 f18 h2 g1 fn31 h3 g2 fn32 h4 g3 fn33) := hD2
            clear hP2 hD2
            have hgF := hgF.app pt1_ra19
            have hxl := hgF.1
            refine lv_aload_n hx hb dX12_atom_76 rfl (lv_at hl 1 rfl) ?_
            refine lv_bipush (v := 93) hx hb dX12_atom_77 (by decide) ?_
            have hPc := hP.sub (ws' := (wd_171f232f h0 v0 h1 v1 x28 x29 x30 h2 h3 h4 r0 r1 r2 r3 v3 v4 r4 r5 r6 r7 v5 r8 r9 v6 v7 r10 r11 v8 v9 r12 v10 v11 r13 v12 w13 r14 v14 v15 r15 r16 r17 r18 r19 r20 v16 r21 r22 r23 v17)) [0] rfl
            have hDc := hD.sub (ws' := (wd_171f232f h0 v0 h1 v1 x28 x29 x30 h2 h3 h4 r0 r1 r2 r3 v3 v4 r4 r5 r6 r7 v5 r8 r9 v6 v7 r10 r11 v8 v9 r12 v10 v11 r13 v12 w13 r14 v14 v15 r15 r16 r17 r18 r19 r20 v16 r21 r22 r23 v17)) [0] (by decide) rfl
            have hKc := hK.sub (tys' := []) [] rfl
            have hFc := va_free (wc := (wd_171f232f h0 v0 h1 v1 x28 x29 x30 h2 h3 h4 r0 r1 r2 r3 v3 v4 r4 r5 r6 r7 v5 r8 r9 v6 v7 r10 r11 v8 v9 r12 v10 v11 r13 v12 w13 r14 v14 v15 r15 r16 r17 r18 r19 r20 v16 r21 r22 r23 v17)) hD hS hA [0] rfl
            refine va_callv (va_runV (As := [.int 93]) (rest := []) ⟨hx, hb, hml, hown, hts⟩ (k_X12_closes_1 l dC dI h0 v0 h1 v1 x28 x29 x30 h2 h3 h4 r0 r1 r2 r3 v3 v4 r4 r5 r6 r7 v5 r8 r9 v6 v7 r10 r11 v8 v9 r12 v10 v11 r13 v12 w13 r14 v14 v15 r15 r16 r17 r18 r19 r20 v16 r21 r22 r23 v17 ⟨i_v1a, i_v1b⟩ ⟨oa_x28, by first | omega | decide⟩ ⟨oa_x29, by first | omega | decide⟩ ⟨i_v3a, i_v3b⟩ ⟨i_v4a, i_v4b⟩ ⟨i_v5a, i_v5b⟩ ⟨i_v6a, i_v6b⟩ ⟨i_v7a, i_v7b⟩ ⟨i_v8a, i_v8b⟩ ⟨i_v12a, i_v12b⟩ ⟨i_v16a, i_v16b⟩ ⟨i_v17a, i_v17b⟩ H.size) (cwV 1 hts g_X12_atom_4_10 rfl rfl rfl (by decide +kernel) ⟨Nat.le_of_ble_eq_true rfl, Nat.le_of_ble_eq_true rfl⟩) (pv_PV12 hPc hKc hDc (q0 := 0) rfl) rfl rfl hl.1 rfl (lv_room (Nat.le_of_ble_eq_true rfl)) dX12_atom_79 ⟨Nat.le_of_ble_eq_true rfl, Nat.le_of_ble_eq_true rfl⟩) hS (fun q _ h => hFc q h) hFc (fun u t H1 locs ht hvm hwra34 hB hz1 hk1 hS => ?_)
            obtain ⟨x35, x36, oa_x35, ob_x35, pt0_ra34, hP1, hK1, hD1⟩ := hB
            rw [ht] at hP1
            obtain ⟨hP2, hD2⟩ := va_join (wr := (wd_bfe486e6 h1 g0 f18 h2 g1 fn31 h3 g2 fn32 h4 g3 fn33)) (w1 := (wd_171f232f h0 v0 h1 v1 x35 x29 x36 h2 h3 h4 r0 r1 r2 r3 v3 v4 r4 r5 r6 r7 v5 r8 r9 v6 v7 r10 r11 v8 v9 r12 v10 v11 r13 v12 w13 r14 v14 v15 r15 r16 r17 r18 r19 r20 v16 r21 r22 r23 v17)) hP hD [0] [1, 2, 3, 4] rfl rfl (by decide) (by decide) hk1 hFc hP1 hD1
            clear hP hD hPc hDc hKc hFc hP1 hK1 hD1 hk1 hz1
            generalize H1 = H at hP2 hS ⊢
            have hP := hP2.sub (ws' := (wd_d906eaf1 h0 v0 h1 v1 x35 x29 x36 h2 h3 h4 r0 r1 r2 r3 v3 v4 r4 r5 r6 r7 v5 r8 r9 v6 v7 r10 r11 v8 v9 r12 v10 v11 r13 v12 w13 r14 v14 v15 r15 r16 r17 r18 r19 r20 v16 r21 r22 r23 v17 h1 g0 f18 h2 g1 fn31 h3 g2 fn32 h4 g3 fn33)) [4, 0, 1, 2, 3] rfl
            have hD := hD2.sub (ws' := (wd_d906eaf1 h0 v0 h1 v1 x35 x29 x36 h2 h3 h4 r0 r1 r2 r3 v3 v4 r4 r5 r6 r7 v5 r8 r9 v6 v7 r10 r11 v8 v9 r12 v10 v11 r13 v12 w13 r14 v14 v15 r15 r16 r17 r18 r19 r20 v16 r21 r22 r23 v17 h1 g0 f18 h2 g1 fn31 h3 g2 fn32 h4 g3 fn33)) [4, 0, 1, 2, 3] (by decide) rfl
            clear hP2 hD2
            refine lv_goto (tgt := 89) hx hb dX12_atom_82 (by decide) ?_
            subst hQ
            have hP9 := hP.sub (ws' := (wd_d906eaf1 h0 v0 h1 v1 x35 x29 x36 h2 h3 h4 r0 r1 r2 r3 v3 v4 r4 r5 r6 r7 v5 r8 r9 v6 v7 r10 r11 v8 v9 r12 v10 v11 r13 v12 w13 r14 v14 v15 r15 r16 r17 r18 r19 r20 v16 r21 r22 r23 v17 h1 g0 f18 h2 g1 fn31 h3 g2 fn32 h4 g3 fn33)) [0, 1, 2, 3, 4] rfl
            have hD9 := hD.sub (ws' := (wd_d906eaf1 h0 v0 h1 v1 x35 x29 x36 h2 h3 h4 r0 r1 r2 r3 v3 v4 r4 r5 r6 r7 v5 r8 r9 v6 v7 r10 r11 v8 v9 r12 v10 v11 r13 v12 w13 r14 v14 v15 r15 r16 r17 r18 r19 r20 v16 r21 r22 r23 v17 h1 g0 f18 h2 g1 fn31 h3 g2 fn32 h4 g3 fn33)) [0, 1, 2, 3, 4] (by decide) rfl
            have hK9 := hK.sub (tys' := []) [] rfl
            exact W.vret hx hb hr (fun t ht hW => ⟨⟨(), rfl, trivial, Or.inr (⟨x35, x29, x36, fn31, fn32, fn33, by first | omega | decide, by first | omega | decide, oa_x29, ob_x29, by constructor <;> omega, by exact hgF, by show pg_atomF f18 v1.toInt true (pg_sum f18 v1.toInt 3) _ = _; first | (apply pg_atomF.num <;> first | assumption | omega) | (apply pg_atomF.par0 <;> first | assumption | omega) | (apply pg_atomF.par1 <;> first | assumption | omega) | (apply pg_atomF.deep <;> first | assumption | omega) | (apply pg_atomF.bad <;> first | assumption | omega), by rw [ht]; exact hP9, va_K.moved hW.alike hK9, hD9⟩)⟩, hS.F ht⟩) hS.2.2 dX12_atom_89
      · skip
        have fc13 : ¬ (ra12.toInt = (-1)) := fun h9 => c13 (Int32.toInt_inj.mp h9)
        refine lv_aload_n hx hb dX12_atom_32 rfl (lv_at hl 1 rfl) ?_
        refine lv_dup hx hb dX12_atom_33 rfl ?_
        refine va_get (D := (dC, dI)) (ci := 12) (v := .int x9) (C := RX12) (T := TX12) (N := 48) hx hb hts (fun _ h => List.mem_cons_of_mem _ (List.mem_append_right _ h)) hown hK hP 0 rfl rfl 3 (by decide) (hts (.fieldLink RX12 112 "LeftArgumentsModel" "at" "I") (List.mem_cons_of_mem _ (List.mem_append_left _ (List.mem_of_getElem? (i := 2) rfl)))) (fun _ h9 => h9) rfl dX12_atom_34 ?_
        refine lv_iconst (v := 1) hx hb dX12_atom_37 (by decide) ?_
        refine lv_iadd hx hb dX12_atom_38 ?_
        refine lv_topi (fun t37 et37 => ?_)
        have gt37 : t37.toInt = x9.toInt + 1 := pv_add (a := x9.toInt) (b := 1) et37 rfl (by decide) (by omega) (by omega)
        refine va_put (D := (dC, dI)) (ci := 12) (v := .int t37) (ty := .int) (C := RX12) (T := TX12) (N := 48) hx hb hts (fun _ h => List.mem_cons_of_mem _ (List.mem_append_right _ h)) tyX12 tyX12_ok nmX12 hown hK hP hD hS 0 rfl rfl 3 (by decide) (hts (.fieldLink RX12 112 "LeftArgumentsModel" "at" "I") (List.mem_cons_of_mem _ (List.mem_append_left _ (List.mem_of_getElem? (i := 2) rfl)))) (fun _ h9 => h9) rfl (by decide +kernel) rfl rfl (Nat.le_of_ble_eq_true rfl) dX12_atom_39 (fun H locs hP hD hS => ?_)
        have hP : va_P (dC, dI) vwCl (wd_d906eaf1 h0 v0 h1 v1 t37 (-1) 2 h2 h3 h4 r0 r1 r2 r3 v3 v4 r4 r5 r6 r7 v5 r8 r9 v6 v7 r10 r11 v8 v9 r12 v10 v11 r13 v12 w13 r14 v14 v15 r15 r16 r17 r18 r19 r20 v16 r21 r22 r23 v17 h1 g0 f18 h2 g1 f19 h3 g2 f20 h4 g3 f21) H := hP
        have hD : va_D A (wd_d906eaf1 h0 v0 h1 v1 t37 (-1) 2 h2 h3 h4 r0 r1 r2 r3 v3 v4 r4 r5 r6 r7 v5 r8 r9 v6 v7 r10 r11 v8 v9 r12 v10 v11 r13 v12 w13 r14 v14 v15 r15 r16 r17 r18 r19 r20 v16 r21 r22 r23 v17 h1 g0 f18 h2 g1 f19 h3 g2 f20 h4 g3 f21) := hD
        refine lv_aload_n hx hb dX12_atom_42 rfl (lv_at hl 1 rfl) ?_
        refine lv_iconst (v := 1) hx hb dX12_atom_43 (by decide) ?_
        refine lv_iload_n hx hb dX12_atom_44 rfl (lv_at hl 0 rfl) ?_
        have hPc := hP.sub (ws' := []) [] rfl
        have hDc := hD.sub (ws' := []) [] (by decide) rfl
        have hKc := hK.sub (tys' := []) [] rfl
        have hFc := va_free (wc := []) hD hS hA [] rfl
        refine va_calli (va_runS (As := [.int ra1]) (rest := [.int 1, .ref h0]) ⟨hx, hb, hml, hown, hts⟩ (k_X12_letterOf l dC dI ra1  H.size) (va_cwS 1 hts g_X12_atom_4_2 rfl rfl rfl (by decide +kernel) ⟨Nat.le_of_ble_eq_true rfl, Nat.le_of_ble_eq_true rfl⟩) (pv_PS hPc hKc hDc) rfl rfl hl.1 rfl (lv_room (Nat.le_of_ble_eq_true rfl)) dX12_atom_45 ⟨Nat.le_of_ble_eq_true rfl, Nat.le_of_ble_eq_true rfl⟩) hS (fun q _ h => hFc q h) hFc (fun ra38 u t H1 locs ht hvm hwra38 hB hz1 hk1 hS => ?_)
        try rw [hwra38] at hB
        obtain ⟨pt0_ra38, pt1_ra38, pt2_ra38, pt3_ra38, hP1, hK1, hD1⟩ := hB
        rw [ht] at hP1
        obtain ⟨hP2, hD2⟩ := va_join (wr := (wd_d906eaf1 h0 v0 h1 v1 t37 (-1) 2 h2 h3 h4 r0 r1 r2 r3 v3 v4 r4 r5 r6 r7 v5 r8 r9 v6 v7 r10 r11 v8 v9 r12 v10 v11 r13 v12 w13 r14 v14 v15 r15 r16 r17 r18 r19 r20 v16 r21 r22 r23 v17 h1 g0 f18 h2 g1 f19 h3 g2 f20 h4 g3 f21)) (w1 := []) hP hD [] [0, 1, 2, 3, 4] rfl rfl (by decide) (by decide) hk1 hFc hP1 hD1
        clear hP hD hPc hDc hKc hFc hP1 hK1 hD1 hk1 hz1
        generalize H1 = H at hP2 hS ⊢
        have hP : va_P (dC, dI) vwCl (wd_d906eaf1 h0 v0 h1 v1 t37 (-1) 2 h2 h3 h4 r0 r1 r2 r3 v3 v4 r4 r5 r6 r7 v5 r8 r9 v6 v7 r10 r11 v8 v9 r12 v10 v11 r13 v12 w13 r14 v14 v15 r15 r16 r17 r18 r19 r20 v16 r21 r22 r23 v17 h1 g0 f18 h2 g1 f19 h3 g2 f20 h4 g3 f21) H := hP2
        have hD : va_D A (wd_d906eaf1 h0 v0 h1 v1 t37 (-1) 2 h2 h3 h4 r0 r1 r2 r3 v3 v4 r4 r5 r6 r7 v5 r8 r9 v6 v7 r10 r11 v8 v9 r12 v10 v11 r13 v12 w13 r14 v14 v15 r15 r16 r17 r18 r19 r20 v16 r21 r22 r23 v17 h1 g0 f18 h2 g1 f19 h3 g2 f20 h4 g3 f21) := hD2
        clear hP2 hD2
        have hPc := hP.sub (ws' := (wd_c62683a8 h0 v0 h1 v1 t37 (-1) 2 h2 h3 h4 r0 r1 r2 r3 v3 v4 r4 r5 r6 r7 v5 r8 r9 v6 v7 r10 r11 v8 v9 r12 v10 v11 r13 v12 w13 r14 v14 v15 r15 r16 r17 r18 r19 r20 v16 r21 r22 r23 v17 h2 g1 f19 h3 g2 f20 h4 g3 f21)) [0, 2, 3, 4] rfl
        have hDc := hD.sub (ws' := (wd_c62683a8 h0 v0 h1 v1 t37 (-1) 2 h2 h3 h4 r0 r1 r2 r3 v3 v4 r4 r5 r6 r7 v5 r8 r9 v6 v7 r10 r11 v8 v9 r12 v10 v11 r13 v12 w13 r14 v14 v15 r15 r16 r17 r18 r19 r20 v16 r21 r22 r23 v17 h2 g1 f19 h3 g2 f20 h4 g3 f21)) [0, 2, 3, 4] (by decide) rfl
        have hKc := hK.sub (tys' := [(g1, .int), (g2, .int), (g3, .int)]) [1, 2, 3] rfl
        have hFc := va_free (wc := (wd_c62683a8 h0 v0 h1 v1 t37 (-1) 2 h2 h3 h4 r0 r1 r2 r3 v3 v4 r4 r5 r6 r7 v5 r8 r9 v6 v7 r10 r11 v8 v9 r12 v10 v11 r13 v12 w13 r14 v14 v15 r15 r16 r17 r18 r19 r20 v16 r21 r22 r23 v17 h2 g1 f19 h3 g2 f20 h4 g3 f21)) hD hS hA [0, 2, 3, 4] rfl
        refine va_callv (va_runV (As := [.int 1, .int ra38]) (rest := []) ⟨hx, hb, hml, hown, hts⟩ (k_X12_put l dC dI h0 h2 h3 h4 v0 h1 v1 t37 ((-1)) 2 r0 r1 r2 r3 v3 v4 r4 r5 r6 r7 v5 r8 r9 v6 v7 r10 r11 v8 v9 r12 v10 v11 r13 v12 w13 r14 v14 v15 r15 r16 r17 r18 r19 r20 v16 r21 r22 r23 v17 g1 f19 g2 f20 g3 f21 1 ra38 ⟨i_v1a, i_v1b⟩ ⟨i_v3a, i_v3b⟩ ⟨i_v4a, i_v4b⟩ ⟨i_v5a, i_v5b⟩ ⟨i_v6a, i_v6b⟩ ⟨i_v7a, i_v7b⟩ ⟨i_v8a, i_v8b⟩ ⟨i_v12a, i_v12b⟩ ⟨i_v16a, i_v16b⟩ ⟨i_v17a, i_v17b⟩ (by constructor <;> omega) H.size) (cwV 2 hts g_X12_atom_4_12 rfl rfl rfl (by decide +kernel) ⟨Nat.le_of_ble_eq_true rfl, Nat.le_of_ble_eq_true rfl⟩) (pv_PV12 hPc hKc hDc (q0 := 0) rfl) rfl rfl hl.1 rfl (lv_room (Nat.le_of_ble_eq_true rfl)) dX12_atom_48 ⟨Nat.le_of_ble_eq_true rfl, Nat.le_of_ble_eq_true rfl⟩) hS (fun q _ h => hFc q h) hFc (fun u t H1 locs ht hvm hwra39 hB hz1 hk1 hS => ?_)
        have hkra39_0 : (((-1) : Int32)).toInt = -1 := by decide
        have hkra39_1 : ((1 : Int32)).toInt = 1 := by decide
        have hkra39_2 : ((2 : Int32)).toInt = 2 := by decide
        obtain ⟨fn40, fn41, fn42, pt0_ra39, hP1, hK1, hD1⟩ := hB
        rw [ht] at hP1
        obtain ⟨hP2, hD2⟩ := va_join (wr := (wd_d0032b31 h1 g0 f18)) (w1 := (wd_c62683a8 h0 v0 h1 v1 t37 (-1) 2 h2 h3 h4 r0 r1 r2 r3 v3 v4 r4 r5 r6 r7 v5 r8 r9 v6 v7 r10 r11 v8 v9 r12 v10 v11 r13 v12 w13 r14 v14 v15 r15 r16 r17 r18 r19 r20 v16 r21 r22 r23 v17 h2 g1 fn40 h3 g2 fn41 h4 g3 fn42)) hP hD [0, 2, 3, 4] [1] rfl rfl (by decide) (by decide) hk1 hFc hP1 hD1
        clear hP hD hPc hDc hKc hFc hP1 hK1 hD1 hk1 hz1
        generalize H1 = H at hP2 hS ⊢
        have hP := hP2.sub (ws' := (wd_d906eaf1 h0 v0 h1 v1 t37 (-1) 2 h2 h3 h4 r0 r1 r2 r3 v3 v4 r4 r5 r6 r7 v5 r8 r9 v6 v7 r10 r11 v8 v9 r12 v10 v11 r13 v12 w13 r14 v14 v15 r15 r16 r17 r18 r19 r20 v16 r21 r22 r23 v17 h1 g0 f18 h2 g1 fn40 h3 g2 fn41 h4 g3 fn42)) [1, 0, 2, 3, 4] rfl
        have hD := hD2.sub (ws' := (wd_d906eaf1 h0 v0 h1 v1 t37 (-1) 2 h2 h3 h4 r0 r1 r2 r3 v3 v4 r4 r5 r6 r7 v5 r8 r9 v6 v7 r10 r11 v8 v9 r12 v10 v11 r13 v12 w13 r14 v14 v15 r15 r16 r17 r18 r19 r20 v16 r21 r22 r23 v17 h1 g0 f18 h2 g1 fn40 h3 g2 fn41 h4 g3 fn42)) [1, 0, 2, 3, 4] (by decide) rfl
        clear hP2 hD2
        have hgR := hgR.let (k' := 1) (D := 1) pt0_ra39 (by decide) (by omega) (by omega) (by decide) (by decide) (by decide) (by decide)
        have hgF := hgR.1
        have hxl := hgF.1
        have hxs := pt0_ra39.step
        refine lv_goto (tgt := 89) hx hb dX12_atom_51 (by decide) ?_
        subst hQ
        have hP9 := hP.sub (ws' := (wd_d906eaf1 h0 v0 h1 v1 t37 (-1) 2 h2 h3 h4 r0 r1 r2 r3 v3 v4 r4 r5 r6 r7 v5 r8 r9 v6 v7 r10 r11 v8 v9 r12 v10 v11 r13 v12 w13 r14 v14 v15 r15 r16 r17 r18 r19 r20 v16 r21 r22 r23 v17 h1 g0 f18 h2 g1 fn40 h3 g2 fn41 h4 g3 fn42)) [0, 1, 2, 3, 4] rfl
        have hD9 := hD.sub (ws' := (wd_d906eaf1 h0 v0 h1 v1 t37 (-1) 2 h2 h3 h4 r0 r1 r2 r3 v3 v4 r4 r5 r6 r7 v5 r8 r9 v6 v7 r10 r11 v8 v9 r12 v10 v11 r13 v12 w13 r14 v14 v15 r15 r16 r17 r18 r19 r20 v16 r21 r22 r23 v17 h1 g0 f18 h2 g1 fn40 h3 g2 fn41 h4 g3 fn42)) [0, 1, 2, 3, 4] (by decide) rfl
        have hK9 := hK.sub (tys' := []) [] rfl
        exact W.vret hx hb hr (fun t ht hW => ⟨⟨(), rfl, trivial, Or.inl ⟨t37, fn40, fn41, fn42, by first | omega | decide, by first | omega | decide, by constructor <;> omega, by exact hgR.mono (by decide), by show pg_atomF f18 v1.toInt true (pg_sum f18 v1.toInt 3) _ = _; first | (apply pg_atomF.num <;> first | assumption | omega) | (apply pg_atomF.lt <;> first | assumption | omega) | (apply pg_atomF.par1 <;> first | assumption | omega), by rw [ht]; exact hP9, va_K.moved hW.alike hK9, hD9⟩⟩, hS.F ht⟩) hS.2.2 dX12_atom_89
    · skip
      have fc11 : ¬ (ra10.toInt = 0) := fun h9 => c11 (Int32.toInt_inj.mp h9)
      refine lv_aload_n hx hb dX12_atom_12 rfl (lv_at hl 1 rfl) ?_
      refine lv_iconst (v := 0) hx hb dX12_atom_13 (by decide) ?_
      refine lv_aload_n hx hb dX12_atom_14 rfl (lv_at hl 1 rfl) ?_
      have hPc := hP.sub (ws' := (wd_f4cd022e h0 v0 h1 v1 x9 (-1) 2 h2 h3 h4 r0 r1 r2 r3 v3 v4 r4 r5 r6 r7 v5 r8 r9 v6 v7 r10 r11 v8 v9 r12 v10 v11 r13 v12 w13 r14 v14 v15 r15 r16 r17 r18 r19 r20 v16 r21 r22 r23 v17 h1 g0 f18)) [0, 1] rfl
      have hDc := hD.sub (ws' := (wd_f4cd022e h0 v0 h1 v1 x9 (-1) 2 h2 h3 h4 r0 r1 r2 r3 v3 v4 r4 r5 r6 r7 v5 r8 r9 v6 v7 r10 r11 v8 v9 r12 v10 v11 r13 v12 w13 r14 v14 v15 r15 r16 r17 r18 r19 r20 v16 r21 r22 r23 v17 h1 g0 f18)) [0, 1] (by decide) rfl
      have hKc := hK.sub (tys' := [(g0, .int)]) [0] rfl
      have hFc := va_free (wc := (wd_f4cd022e h0 v0 h1 v1 x9 (-1) 2 h2 h3 h4 r0 r1 r2 r3 v3 v4 r4 r5 r6 r7 v5 r8 r9 v6 v7 r10 r11 v8 v9 r12 v10 v11 r13 v12 w13 r14 v14 v15 r15 r16 r17 r18 r19 r20 v16 r21 r22 r23 v17 h1 g0 f18)) hD hS hA [0, 1] rfl
      refine va_calli (va_runV (As := []) (rest := [.int 0, .ref h0]) ⟨hx, hb, hml, hown, hts⟩ (k_X12_plainNumber l dC dI h0 h1 v0 v1 x9 2 h2 h3 h4 r0 r1 r2 r3 v3 v4 r4 r5 r6 r7 v5 r8 r9 v6 v7 r10 r11 v8 v9 r12 v10 v11 r13 v12 w13 r14 v14 v15 r15 r16 r17 r18 r19 r20 v16 r21 r22 r23 v17 g0 f18 ⟨i_v1a, i_v1b⟩ ⟨oa_x9, by first | omega | decide⟩ ⟨i_v3a, i_v3b⟩ ⟨i_v4a, i_v4b⟩ ⟨i_v5a, i_v5b⟩ ⟨i_v6a, i_v6b⟩ ⟨i_v7a, i_v7b⟩ ⟨i_v8a, i_v8b⟩ ⟨i_v12a, i_v12b⟩ ⟨i_v16a, i_v16b⟩ ⟨i_v17a, i_v17b⟩ ia_f18 (by apply pm_dig.mk <;> omega) H.size) (cwV 0 hts g_X12_atom_4_13 rfl rfl rfl (by decide +kernel) ⟨Nat.le_of_ble_eq_true rfl, Nat.le_of_ble_eq_true rfl⟩) (pv_PV12 hPc hKc hDc (q0 := 0) rfl) rfl rfl hl.1 rfl (lv_room (Nat.le_of_ble_eq_true rfl)) dX12_atom_15 ⟨Nat.le_of_ble_eq_true rfl, Nat.le_of_ble_eq_true rfl⟩) hS (fun q _ h => hFc q h) hFc (fun ra43 u t H1 locs ht hvm hwra43 hB hz1 hk1 hS => ?_)
      try rw [hwra43] at hB
      have hkra43_0 : ((2 : Int32)).toInt = 2 := by decide
      rcases hB with hB | hB
      · skip
        obtain ⟨x44, oa_x44, ob_x44, pt0_ra43, pt1_ra43, pt2_ra43, pt3_ra43, hP1, hK1, hD1⟩ := hB
        rw [ht] at hP1
        obtain ⟨hP2, hD2⟩ := va_join (wr := (wd_ad0642e8 h2 g1 f19 h3 g2 f20 h4 g3 f21)) (w1 := (wd_f4cd022e h0 v0 h1 v1 x44 (-1) 2 h2 h3 h4 r0 r1 r2 r3 v3 v4 r4 r5 r6 r7 v5 r8 r9 v6 v7 r10 r11 v8 v9 r12 v10 v11 r13 v12 w13 r14 v14 v15 r15 r16 r17 r18 r19 r20 v16 r21 r22 r23 v17 h1 g0 f18)) hP hD [0, 1] [2, 3, 4] rfl rfl (by decide) (by decide) hk1 hFc hP1 hD1
        clear hP hD hPc hDc hKc hFc hP1 hK1 hD1 hk1 hz1
        generalize H1 = H at hP2 hS ⊢
        have hP := hP2.sub (ws' := (wd_d906eaf1 h0 v0 h1 v1 x44 (-1) 2 h2 h3 h4 r0 r1 r2 r3 v3 v4 r4 r5 r6 r7 v5 r8 r9 v6 v7 r10 r11 v8 v9 r12 v10 v11 r13 v12 w13 r14 v14 v15 r15 r16 r17 r18 r19 r20 v16 r21 r22 r23 v17 h1 g0 f18 h2 g1 f19 h3 g2 f20 h4 g3 f21)) [3, 4, 0, 1, 2] rfl
        have hD := hD2.sub (ws' := (wd_d906eaf1 h0 v0 h1 v1 x44 (-1) 2 h2 h3 h4 r0 r1 r2 r3 v3 v4 r4 r5 r6 r7 v5 r8 r9 v6 v7 r10 r11 v8 v9 r12 v10 v11 r13 v12 w13 r14 v14 v15 r15 r16 r17 r18 r19 r20 v16 r21 r22 r23 v17 h1 g0 f18 h2 g1 f19 h3 g2 f20 h4 g3 f21)) [3, 4, 0, 1, 2] (by decide) rfl
        clear hP2 hD2
        have hPc := hP.sub (ws' := (wd_c62683a8 h0 v0 h1 v1 x44 (-1) 2 h2 h3 h4 r0 r1 r2 r3 v3 v4 r4 r5 r6 r7 v5 r8 r9 v6 v7 r10 r11 v8 v9 r12 v10 v11 r13 v12 w13 r14 v14 v15 r15 r16 r17 r18 r19 r20 v16 r21 r22 r23 v17 h2 g1 f19 h3 g2 f20 h4 g3 f21)) [0, 2, 3, 4] rfl
        have hDc := hD.sub (ws' := (wd_c62683a8 h0 v0 h1 v1 x44 (-1) 2 h2 h3 h4 r0 r1 r2 r3 v3 v4 r4 r5 r6 r7 v5 r8 r9 v6 v7 r10 r11 v8 v9 r12 v10 v11 r13 v12 w13 r14 v14 v15 r15 r16 r17 r18 r19 r20 v16 r21 r22 r23 v17 h2 g1 f19 h3 g2 f20 h4 g3 f21)) [0, 2, 3, 4] (by decide) rfl
        have hKc := hK.sub (tys' := [(g1, .int), (g2, .int), (g3, .int)]) [1, 2, 3] rfl
        have hFc := va_free (wc := (wd_c62683a8 h0 v0 h1 v1 x44 (-1) 2 h2 h3 h4 r0 r1 r2 r3 v3 v4 r4 r5 r6 r7 v5 r8 r9 v6 v7 r10 r11 v8 v9 r12 v10 v11 r13 v12 w13 r14 v14 v15 r15 r16 r17 r18 r19 r20 v16 r21 r22 r23 v17 h2 g1 f19 h3 g2 f20 h4 g3 f21)) hD hS hA [0, 2, 3, 4] rfl
        refine va_callv (va_runV (As := [.int 0, .int ra43]) (rest := []) ⟨hx, hb, hml, hown, hts⟩ (k_X12_put l dC dI h0 h2 h3 h4 v0 h1 v1 x44 ((-1)) 2 r0 r1 r2 r3 v3 v4 r4 r5 r6 r7 v5 r8 r9 v6 v7 r10 r11 v8 v9 r12 v10 v11 r13 v12 w13 r14 v14 v15 r15 r16 r17 r18 r19 r20 v16 r21 r22 r23 v17 g1 f19 g2 f20 g3 f21 0 ra43 ⟨i_v1a, i_v1b⟩ ⟨i_v3a, i_v3b⟩ ⟨i_v4a, i_v4b⟩ ⟨i_v5a, i_v5b⟩ ⟨i_v6a, i_v6b⟩ ⟨i_v7a, i_v7b⟩ ⟨i_v8a, i_v8b⟩ ⟨i_v12a, i_v12b⟩ ⟨i_v16a, i_v16b⟩ ⟨i_v17a, i_v17b⟩ (by constructor <;> omega) H.size) (cwV 2 hts g_X12_atom_4_12 rfl rfl rfl (by decide +kernel) ⟨Nat.le_of_ble_eq_true rfl, Nat.le_of_ble_eq_true rfl⟩) (pv_PV12 hPc hKc hDc (q0 := 0) rfl) rfl rfl hl.1 rfl (lv_room (Nat.le_of_ble_eq_true rfl)) dX12_atom_18 ⟨Nat.le_of_ble_eq_true rfl, Nat.le_of_ble_eq_true rfl⟩) hS (fun q _ h => hFc q h) hFc (fun u t H1 locs ht hvm hwra45 hB hz1 hk1 hS => ?_)
        have hkra45_0 : (((-1) : Int32)).toInt = -1 := by decide
        have hkra45_1 : ((0 : Int32)).toInt = 0 := by decide
        have hkra45_2 : ((2 : Int32)).toInt = 2 := by decide
        obtain ⟨fn46, fn47, fn48, pt0_ra45, hP1, hK1, hD1⟩ := hB
        rw [ht] at hP1
        obtain ⟨hP2, hD2⟩ := va_join (wr := (wd_d0032b31 h1 g0 f18)) (w1 := (wd_c62683a8 h0 v0 h1 v1 x44 (-1) 2 h2 h3 h4 r0 r1 r2 r3 v3 v4 r4 r5 r6 r7 v5 r8 r9 v6 v7 r10 r11 v8 v9 r12 v10 v11 r13 v12 w13 r14 v14 v15 r15 r16 r17 r18 r19 r20 v16 r21 r22 r23 v17 h2 g1 fn46 h3 g2 fn47 h4 g3 fn48)) hP hD [0, 2, 3, 4] [1] rfl rfl (by decide) (by decide) hk1 hFc hP1 hD1
        clear hP hD hPc hDc hKc hFc hP1 hK1 hD1 hk1 hz1
        generalize H1 = H at hP2 hS ⊢
        have hP := hP2.sub (ws' := (wd_d906eaf1 h0 v0 h1 v1 x44 (-1) 2 h2 h3 h4 r0 r1 r2 r3 v3 v4 r4 r5 r6 r7 v5 r8 r9 v6 v7 r10 r11 v8 v9 r12 v10 v11 r13 v12 w13 r14 v14 v15 r15 r16 r17 r18 r19 r20 v16 r21 r22 r23 v17 h1 g0 f18 h2 g1 fn46 h3 g2 fn47 h4 g3 fn48)) [1, 0, 2, 3, 4] rfl
        have hD := hD2.sub (ws' := (wd_d906eaf1 h0 v0 h1 v1 x44 (-1) 2 h2 h3 h4 r0 r1 r2 r3 v3 v4 r4 r5 r6 r7 v5 r8 r9 v6 v7 r10 r11 v8 v9 r12 v10 v11 r13 v12 w13 r14 v14 v15 r15 r16 r17 r18 r19 r20 v16 r21 r22 r23 v17 h1 g0 f18 h2 g1 fn46 h3 g2 fn47 h4 g3 fn48)) [1, 0, 2, 3, 4] (by decide) rfl
        clear hP2 hD2
        have hgR := hgR.lit (k' := 1) (D := 1) pt0_ra45 (by decide) (by decide) (by decide) (by decide) (by decide)
        have hgF := hgR.1
        have hxl := hgF.1
        have hxs := pt0_ra45.step
        refine lv_goto (tgt := 89) hx hb dX12_atom_21 (by decide) ?_
        subst hQ
        have hP9 := hP.sub (ws' := (wd_d906eaf1 h0 v0 h1 v1 x44 (-1) 2 h2 h3 h4 r0 r1 r2 r3 v3 v4 r4 r5 r6 r7 v5 r8 r9 v6 v7 r10 r11 v8 v9 r12 v10 v11 r13 v12 w13 r14 v14 v15 r15 r16 r17 r18 r19 r20 v16 r21 r22 r23 v17 h1 g0 f18 h2 g1 fn46 h3 g2 fn47 h4 g3 fn48)) [0, 1, 2, 3, 4] rfl
        have hD9 := hD.sub (ws' := (wd_d906eaf1 h0 v0 h1 v1 x44 (-1) 2 h2 h3 h4 r0 r1 r2 r3 v3 v4 r4 r5 r6 r7 v5 r8 r9 v6 v7 r10 r11 v8 v9 r12 v10 v11 r13 v12 w13 r14 v14 v15 r15 r16 r17 r18 r19 r20 v16 r21 r22 r23 v17 h1 g0 f18 h2 g1 fn46 h3 g2 fn47 h4 g3 fn48)) [0, 1, 2, 3, 4] (by decide) rfl
        have hK9 := hK.sub (tys' := []) [] rfl
        exact W.vret hx hb hr (fun t ht hW => ⟨⟨(), rfl, trivial, Or.inl ⟨x44, fn46, fn47, fn48, oa_x44, ob_x44, by constructor <;> omega, by exact hgR.mono (by decide), by show pg_atomF f18 v1.toInt true (pg_sum f18 v1.toInt 3) _ = _; first | (apply pg_atomF.num <;> first | assumption | omega) | (apply pg_atomF.lt <;> first | assumption | omega) | (apply pg_atomF.par1 <;> first | assumption | omega), by rw [ht]; exact hP9, va_K.moved hW.alike hK9, hD9⟩⟩, hS.F ht⟩) hS.2.2 dX12_atom_89
      · skip
        obtain ⟨x49, x50, oa_x49, ob_x49, oa_x50, ob_x50, pt0_ra43, pt1_ra43, pt2_ra43, pt3_ra43, hP1, hK1, hD1⟩ := hB
        rw [ht] at hP1
        obtain ⟨hP2, hD2⟩ := va_join (wr := (wd_ad0642e8 h2 g1 f19 h3 g2 f20 h4 g3 f21)) (w1 := (wd_f4cd022e h0 v0 h1 v1 x49 x50 2 h2 h3 h4 r0 r1 r2 r3 v3 v4 r4 r5 r6 r7 v5 r8 r9 v6 v7 r10 r11 v8 v9 r12 v10 v11 r13 v12 w13 r14 v14 v15 r15 r16 r17 r18 r19 r20 v16 r21 r22 r23 v17 h1 g0 f18)) hP hD [0, 1] [2, 3, 4] rfl rfl (by decide) (by decide) hk1 hFc hP1 hD1
        clear hP hD hPc hDc hKc hFc hP1 hK1 hD1 hk1 hz1
        generalize H1 = H at hP2 hS ⊢
        have hP := hP2.sub (ws' := (wd_d906eaf1 h0 v0 h1 v1 x49 x50 2 h2 h3 h4 r0 r1 r2 r3 v3 v4 r4 r5 r6 r7 v5 r8 r9 v6 v7 r10 r11 v8 v9 r12 v10 v11 r13 v12 w13 r14 v14 v15 r15 r16 r17 r18 r19 r20 v16 r21 r22 r23 v17 h1 g0 f18 h2 g1 f19 h3 g2 f20 h4 g3 f21)) [3, 4, 0, 1, 2] rfl
        have hD := hD2.sub (ws' := (wd_d906eaf1 h0 v0 h1 v1 x49 x50 2 h2 h3 h4 r0 r1 r2 r3 v3 v4 r4 r5 r6 r7 v5 r8 r9 v6 v7 r10 r11 v8 v9 r12 v10 v11 r13 v12 w13 r14 v14 v15 r15 r16 r17 r18 r19 r20 v16 r21 r22 r23 v17 h1 g0 f18 h2 g1 f19 h3 g2 f20 h4 g3 f21)) [3, 4, 0, 1, 2] (by decide) rfl
        clear hP2 hD2
        have hPc := hP.sub (ws' := (wd_c62683a8 h0 v0 h1 v1 x49 x50 2 h2 h3 h4 r0 r1 r2 r3 v3 v4 r4 r5 r6 r7 v5 r8 r9 v6 v7 r10 r11 v8 v9 r12 v10 v11 r13 v12 w13 r14 v14 v15 r15 r16 r17 r18 r19 r20 v16 r21 r22 r23 v17 h2 g1 f19 h3 g2 f20 h4 g3 f21)) [0, 2, 3, 4] rfl
        have hDc := hD.sub (ws' := (wd_c62683a8 h0 v0 h1 v1 x49 x50 2 h2 h3 h4 r0 r1 r2 r3 v3 v4 r4 r5 r6 r7 v5 r8 r9 v6 v7 r10 r11 v8 v9 r12 v10 v11 r13 v12 w13 r14 v14 v15 r15 r16 r17 r18 r19 r20 v16 r21 r22 r23 v17 h2 g1 f19 h3 g2 f20 h4 g3 f21)) [0, 2, 3, 4] (by decide) rfl
        have hKc := hK.sub (tys' := [(g1, .int), (g2, .int), (g3, .int)]) [1, 2, 3] rfl
        have hFc := va_free (wc := (wd_c62683a8 h0 v0 h1 v1 x49 x50 2 h2 h3 h4 r0 r1 r2 r3 v3 v4 r4 r5 r6 r7 v5 r8 r9 v6 v7 r10 r11 v8 v9 r12 v10 v11 r13 v12 w13 r14 v14 v15 r15 r16 r17 r18 r19 r20 v16 r21 r22 r23 v17 h2 g1 f19 h3 g2 f20 h4 g3 f21)) hD hS hA [0, 2, 3, 4] rfl
        refine va_callv (va_runV (As := [.int 0, .int ra43]) (rest := []) ⟨hx, hb, hml, hown, hts⟩ (k_X12_put l dC dI h0 h2 h3 h4 v0 h1 v1 x49 x50 2 r0 r1 r2 r3 v3 v4 r4 r5 r6 r7 v5 r8 r9 v6 v7 r10 r11 v8 v9 r12 v10 v11 r13 v12 w13 r14 v14 v15 r15 r16 r17 r18 r19 r20 v16 r21 r22 r23 v17 g1 f19 g2 f20 g3 f21 0 ra43 ⟨i_v1a, i_v1b⟩ ⟨i_v3a, i_v3b⟩ ⟨i_v4a, i_v4b⟩ ⟨i_v5a, i_v5b⟩ ⟨i_v6a, i_v6b⟩ ⟨i_v7a, i_v7b⟩ ⟨i_v8a, i_v8b⟩ ⟨i_v12a, i_v12b⟩ ⟨i_v16a, i_v16b⟩ ⟨i_v17a, i_v17b⟩ (by constructor <;> omega) H.size) (cwV 2 hts g_X12_atom_4_12 rfl rfl rfl (by decide +kernel) ⟨Nat.le_of_ble_eq_true rfl, Nat.le_of_ble_eq_true rfl⟩) (pv_PV12 hPc hKc hDc (q0 := 0) rfl) rfl rfl hl.1 rfl (lv_room (Nat.le_of_ble_eq_true rfl)) dX12_atom_18 ⟨Nat.le_of_ble_eq_true rfl, Nat.le_of_ble_eq_true rfl⟩) hS (fun q _ h => hFc q h) hFc (fun u t H1 locs ht hvm hwra51 hB hz1 hk1 hS => ?_)
        have hkra51_0 : ((0 : Int32)).toInt = 0 := by decide
        have hkra51_1 : ((2 : Int32)).toInt = 2 := by decide
        obtain ⟨fn52, fn53, fn54, pt0_ra51, hP1, hK1, hD1⟩ := hB
        rw [ht] at hP1
        obtain ⟨hP2, hD2⟩ := va_join (wr := (wd_d0032b31 h1 g0 f18)) (w1 := (wd_c62683a8 h0 v0 h1 v1 x49 x50 2 h2 h3 h4 r0 r1 r2 r3 v3 v4 r4 r5 r6 r7 v5 r8 r9 v6 v7 r10 r11 v8 v9 r12 v10 v11 r13 v12 w13 r14 v14 v15 r15 r16 r17 r18 r19 r20 v16 r21 r22 r23 v17 h2 g1 fn52 h3 g2 fn53 h4 g3 fn54)) hP hD [0, 2, 3, 4] [1] rfl rfl (by decide) (by decide) hk1 hFc hP1 hD1
        clear hP hD hPc hDc hKc hFc hP1 hK1 hD1 hk1 hz1
        generalize H1 = H at hP2 hS ⊢
        have hP := hP2.sub (ws' := (wd_d906eaf1 h0 v0 h1 v1 x49 x50 2 h2 h3 h4 r0 r1 r2 r3 v3 v4 r4 r5 r6 r7 v5 r8 r9 v6 v7 r10 r11 v8 v9 r12 v10 v11 r13 v12 w13 r14 v14 v15 r15 r16 r17 r18 r19 r20 v16 r21 r22 r23 v17 h1 g0 f18 h2 g1 fn52 h3 g2 fn53 h4 g3 fn54)) [1, 0, 2, 3, 4] rfl
        have hD := hD2.sub (ws' := (wd_d906eaf1 h0 v0 h1 v1 x49 x50 2 h2 h3 h4 r0 r1 r2 r3 v3 v4 r4 r5 r6 r7 v5 r8 r9 v6 v7 r10 r11 v8 v9 r12 v10 v11 r13 v12 w13 r14 v14 v15 r15 r16 r17 r18 r19 r20 v16 r21 r22 r23 v17 h1 g0 f18 h2 g1 fn52 h3 g2 fn53 h4 g3 fn54)) [1, 0, 2, 3, 4] (by decide) rfl
        clear hP2 hD2
        have hgF := hgF.put pt0_ra51
        have hxl := hgF.1
        have hxs := pt0_ra51.step
        refine lv_goto (tgt := 89) hx hb dX12_atom_21 (by decide) ?_
        subst hQ
        have hP9 := hP.sub (ws' := (wd_d906eaf1 h0 v0 h1 v1 x49 x50 2 h2 h3 h4 r0 r1 r2 r3 v3 v4 r4 r5 r6 r7 v5 r8 r9 v6 v7 r10 r11 v8 v9 r12 v10 v11 r13 v12 w13 r14 v14 v15 r15 r16 r17 r18 r19 r20 v16 r21 r22 r23 v17 h1 g0 f18 h2 g1 fn52 h3 g2 fn53 h4 g3 fn54)) [0, 1, 2, 3, 4] rfl
        have hD9 := hD.sub (ws' := (wd_d906eaf1 h0 v0 h1 v1 x49 x50 2 h2 h3 h4 r0 r1 r2 r3 v3 v4 r4 r5 r6 r7 v5 r8 r9 v6 v7 r10 r11 v8 v9 r12 v10 v11 r13 v12 w13 r14 v14 v15 r15 r16 r17 r18 r19 r20 v16 r21 r22 r23 v17 h1 g0 f18 h2 g1 fn52 h3 g2 fn53 h4 g3 fn54)) [0, 1, 2, 3, 4] (by decide) rfl
        have hK9 := hK.sub (tys' := []) [] rfl
        exact W.vret hx hb hr (fun t ht hW => ⟨⟨(), rfl, trivial, Or.inr (⟨x49, x50, 2, fn52, fn53, fn54, oa_x49, by first | omega | decide, oa_x50, ob_x50, by constructor <;> omega, by exact hgF, by show pg_atomF f18 v1.toInt true (pg_sum f18 v1.toInt 3) _ = _; first | (apply pg_atomF.num <;> first | assumption | omega) | (apply pg_atomF.par0 <;> first | assumption | omega) | (apply pg_atomF.par1 <;> first | assumption | omega) | (apply pg_atomF.deep <;> first | assumption | omega) | (apply pg_atomF.bad <;> first | assumption | omega), by rw [ht]; exact hP9, va_K.moved hW.alike hK9, hD9⟩)⟩, hS.F ht⟩) hS.2.2 dX12_atom_89
