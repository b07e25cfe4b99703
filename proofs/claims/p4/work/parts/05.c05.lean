def q_X12_tryShelf_4 : List Cond := .code yX12_tryShelf cX12_tryShelf 7 none :: (([.fieldLink RX12 388 "LeftArgumentsModel" "bestRow" "I", .code yX12_isThere cX12_isThere 2 (some .boolean), .code yX12_in cX12_in 3 (some .boolean), .initialized RX12, .static yX12_in, .methodLink RX12 217 yX12_in, .code yX12_of cX12_of 3 (some .int), .fieldLink RX12 52 "LeftArgumentsModel" "now" "[I", .instanceMethod yX12_of, .selects RX12 yX12_of yX12_of, .methodLink RX12 287 yX12_of, .instanceMethod yX12_isThere, .selects RX12 yX12_isThere yX12_isThere, .methodLink RX12 290 yX12_isThere, .code yX12_isCalm cX12_isCalm 4 (some .boolean), .fieldLink RX12 74 "LeftArgumentsModel" "onShelf" "[I", .code yX12_setsOff cX12_setsOff 3 (some .boolean), .methodLink RX12 411 Lib.Math.abs.name, .static Lib.Math.abs.name, .initialized "java/lang/Math", .code Lib.Math.abs.name Lib.Math.abs.code 1 (some .int), .code yX12_stubbornOf cX12_stubbornOf 2 (some .int), .instanceMethod yX12_stubbornOf, .selects RX12 yX12_stubbornOf yX12_stubbornOf, .methodLink RX12 414 yX12_stubbornOf, .instanceMethod yX12_setsOff, .selects RX12 yX12_setsOff yX12_setsOff, .methodLink RX12 401 yX12_setsOff, .instanceMethod yX12_isCalm, .selects RX12 yX12_isCalm yX12_isCalm, .methodLink RX12 398 yX12_isCalm, .fieldLink RX12 77 "LeftArgumentsModel" "room" "[I", .code yX12_tryShelf cX12_tryShelf 7 none, .fieldLink RX12 391 "LeftArgumentsModel" "bestMany" "I", .instanceMethod yX12_tryShelf, .selects RX12 yX12_tryShelf yX12_tryShelf, .methodLink RX12 394 yX12_tryShelf, .fieldLink RX12 46 "LeftArgumentsModel" "rule" "[I"] : List Cond) ++ wsX120)
set_option maxRecDepth 20000 in
theorem g_X12_tryShelf_4_0 : GoodIn q_X12_tryShelf_4 (wsV RX12 290 RX12 yX12_isThere q_X12_isThere) := goodIn_app (goodIn_r _ [14, 12, 13, 4] rfl (by decide +kernel)) (goodIn_ca (goodIn_r (.code yX12_isThere cX12_isThere 2 (some .boolean) :: [.code yX12_in cX12_in 3 (some .boolean), .initialized RX12, .static yX12_in, .methodLink RX12 217 yX12_in, .code yX12_of cX12_of 3 (some .int), .fieldLink RX12 52 "LeftArgumentsModel" "now" "[I", .instanceMethod yX12_of, .selects RX12 yX12_of yX12_of, .methodLink RX12 287 yX12_of]) [2, 3, 4, 5, 6, 7, 8, 9, 10, 11] rfl (by decide +kernel)) (goodIn_sub (fun _ h => List.mem_cons_of_mem _ (List.mem_append_right _ h)) gwX12))
set_option maxRecDepth 20000 in
theorem g_X12_tryShelf_4_1 : GoodIn q_X12_tryShelf_4 (wsV RX12 398 RX12 yX12_isCalm q_X12_isCalm) := goodIn_app (goodIn_r _ [31, 29, 30, 4] rfl (by decide +kernel)) (goodIn_ca (goodIn_r (.code yX12_isCalm cX12_isCalm 4 (some .boolean) :: [.code yX12_isThere cX12_isThere 2 (some .boolean), .code yX12_in cX12_in 3 (some .boolean), .initialized RX12, .static yX12_in, .methodLink RX12 217 yX12_in, .code yX12_of cX12_of 3 (some .int), .fieldLink RX12 52 "LeftArgumentsModel" "now" "[I", .instanceMethod yX12_of, .selects RX12 yX12_of yX12_of, .methodLink RX12 287 yX12_of, .instanceMethod yX12_isThere, .selects RX12 yX12_isThere yX12_isThere, .methodLink RX12 290 yX12_isThere, .fieldLink RX12 74 "LeftArgumentsModel" "onShelf" "[I", .code yX12_setsOff cX12_setsOff 3 (some .boolean), .methodLink RX12 411 Lib.Math.abs.name, .static Lib.Math.abs.name, .initialized "java/lang/Math", .code Lib.Math.abs.name Lib.Math.abs.code 1 (some .int), .code yX12_stubbornOf cX12_stubbornOf 2 (some .int), .instanceMethod yX12_stubbornOf, .selects RX12 yX12_stubbornOf yX12_stubbornOf, .methodLink RX12 414 yX12_stubbornOf, .instanceMethod yX12_setsOff, .selects RX12 yX12_setsOff yX12_setsOff, .methodLink RX12 401 yX12_setsOff]) [15, 2, 3, 4, 5, 6, 7, 8, 9, 10, 11, 12, 13, 14, 16, 17, 18, 19, 20, 21, 22, 23, 24, 25, 26, 27, 28] rfl (by decide +kernel)) (goodIn_sub (fun _ h => List.mem_cons_of_mem _ (List.mem_append_right _ h)) gwX12))
set_option maxRecDepth 20000 in
theorem g_X12_tryShelf_4_2 : GoodIn q_X12_tryShelf_4 (wsV RX12 287 RX12 yX12_of q_X12_of_3) := goodIn_app (goodIn_r _ [11, 9, 10, 4] rfl (by decide +kernel)) (goodIn_ca (goodIn_r (.code yX12_of cX12_of 3 (some .int) :: [.fieldLink RX12 52 "LeftArgumentsModel" "now" "[I"]) [7, 8] rfl (by decide +kernel)) (goodIn_sub (fun _ h => List.mem_cons_of_mem _ (List.mem_append_right _ h)) gwX12))
set_option maxRecDepth 20000 in
theorem g_X12_tryShelf_4_4 : GoodIn q_X12_tryShelf_4 (wsV RX12 394 RX12 yX12_tryShelf q_X12_tryShelf_3) := goodIn_app (goodIn_r _ [37, 35, 36, 4] rfl (by decide +kernel)) (goodIn_ca (goodIn_r (.code yX12_tryShelf cX12_tryShelf 7 none :: [.fieldLink RX12 388 "LeftArgumentsModel" "bestRow" "I", .code yX12_isThere cX12_isThere 2 (some .boolean), .code yX12_in cX12_in 3 (some .boolean), .initialized RX12, .static yX12_in, .methodLink RX12 217 yX12_in, .code yX12_of cX12_of 3 (some .int), .fieldLink RX12 52 "LeftArgumentsModel" "now" "[I", .instanceMethod yX12_of, .selects RX12 yX12_of yX12_of, .methodLink RX12 287 yX12_of, .instanceMethod yX12_isThere, .selects RX12 yX12_isThere yX12_isThere, .methodLink RX12 290 yX12_isThere, .code yX12_isCalm cX12_isCalm 4 (some .boolean), .fieldLink RX12 74 "LeftArgumentsModel" "onShelf" "[I", .code yX12_setsOff cX12_setsOff 3 (some .boolean), .methodLink RX12 411 Lib.Math.abs.name, .static Lib.Math.abs.name, .initialized "java/lang/Math", .code Lib.Math.abs.name Lib.Math.abs.code 1 (some .int), .code yX12_stubbornOf cX12_stubbornOf 2 (some .int), .instanceMethod yX12_stubbornOf, .selects RX12 yX12_stubbornOf yX12_stubbornOf, .methodLink RX12 414 yX12_stubbornOf, .instanceMethod yX12_setsOff, .selects RX12 yX12_setsOff yX12_setsOff, .methodLink RX12 401 yX12_setsOff, .instanceMethod yX12_isCalm, .selects RX12 yX12_isCalm yX12_isCalm, .methodLink RX12 398 yX12_isCalm, .fieldLink RX12 77 "LeftArgumentsModel" "room" "[I", .code yX12_tryShelf cX12_tryShelf 7 none, .fieldLink RX12 391 "LeftArgumentsModel" "bestMany" "I", .instanceMethod yX12_tryShelf, .selects RX12 yX12_tryShelf yX12_tryShelf, .methodLink RX12 394 yX12_tryShelf, .fieldLink RX12 46 "LeftArgumentsModel" "rule" "[I"]) [33, 1, 2, 3, 4, 5, 6, 7, 8, 9, 10, 11, 12, 13, 14, 15, 16, 17, 18, 19, 20, 21, 22, 23, 24, 25, 26, 27, 28, 29, 30, 31, 32, 33, 34, 35, 36, 37, 38] rfl (by decide +kernel)) (goodIn_sub (fun _ h => List.mem_cons_of_mem _ (List.mem_append_right _ h)) gwX12))
set_option maxHeartbeats 4000000 in
set_option maxRecDepth 100000 in
theorem k_X12_tryShelf_4 (l : Launch) (dC : Nat → ClassId) (dI : Nat → Nat → Nat) (h0 : Nat) (h1 : Nat) (h2 : Nat) (h3 : Nat) (h4 : Nat) (v0 : Int32) (r0 : Nat) (v1 : Int32) (v2 : Int32) (v3 : Int32) (v4 : Int32) (r1 : Nat) (r2 : Nat) (r3 : Nat) (r4 : Nat) (r5 : Nat) (r6 : Nat) (r7 : Nat) (v5 : Int32) (v6 : Int32) (r8 : Nat) (r9 : Nat) (r10 : Nat) (r11 : Nat) (v7 : Int32) (r12 : Nat) (v8 : Int32) (v9 : Int32) (r13 : Nat) (v10 : Int32) (v11 : Int32) (r14 : Nat) (v12 : Int32) (v13 : Int32) (r15 : Nat) (v14 : Int32) (w15 : Int64) (r16 : Nat) (v16 : Int32) (v17 : Int32) (r17 : Nat) (r18 : Nat) (r19 : Nat) (r20 : Nat) (v18 : Int32) (r21 : Nat) (r22 : Nat) (r23 : Nat) (v19 : Int32) (g0 : ClassId) (f20 : Nat → Int32) (g1 : ClassId) (f21 : Nat → Int32) (g2 : ClassId) (f22 : Nat → Int32) (g3 : ClassId) (f23 : Nat → Int32) (v24 : Int32) (v25 : Int32) (v26 : Int32) (i_v1 : 0 ≤ v1.toInt ∧ v1.toInt ≤ 240) (i_v5 : 0 ≤ v5.toInt ∧ v5.toInt ≤ 4) (i_v6 : 0 ≤ v6.toInt ∧ v6.toInt ≤ 4) (i_v7 : 0 ≤ v7.toInt ∧ v7.toInt ≤ 8) (i_v8 : 0 ≤ v8.toInt ∧ v8.toInt ≤ 8) (i_v9 : 0 ≤ v9.toInt ∧ v9.toInt ≤ 1) (i_v10 : -1 ≤ v10.toInt ∧ v10.toInt ≤ 3) (i_v14 : 0 ≤ v14.toInt ∧ v14.toInt ≤ 40) (i_v18 : 0 ≤ v18.toInt ∧ v18.toInt ≤ 10) (i_v19 : 0 ≤ v19.toInt ∧ v19.toInt ≤ 1) (i_v26 : 0 ≤ v26.toInt ∧ v26.toInt ≤ 1) (ia_f20 : (pm_RU f20)) (ia_f21 : (pm_NW f21)) (sz : Nat) : Met l yX12_tryShelf q_X12_tryShelf_4 ({ frames := 7, cells := 0, slots := 0, locals := 166 }) (va_Pc [.ref h0, .int 4, .int v24, .int v25, .int v26] (fun U => U.heap.size = sz ∧ va_P (dC, dI) vwCl (wd_90cd99f9 h0 v0 r0 v1 v2 v3 v4 r1 r2 r3 r4 r5 r6 r7 v5 v6 r8 r9 r10 r11 v7 h1 r12 v8 v9 h2 r13 v10 v11 r14 v12 v13 r15 v14 w15 r16 v16 v17 h3 h4 r17 r18 r19 r20 v18 r21 r22 r23 v19 h1 g0 f20 h2 g1 f21 h3 g2 f22 h4 g3 f23) U.heap ∧ va_K (dC, dI) vwCl [(g0, .int), (g1, .int), (g2, .int), (g3, .int)] U ∧ va_D (fun _ => True) (wd_90cd99f9 h0 v0 r0 v1 v2 v3 v4 r1 r2 r3 r4 r5 r6 r7 v5 v6 r8 r9 r10 r11 v7 h1 r12 v8 v9 h2 r13 v10 v11 r14 v12 v13 r15 v14 w15 r16 v16 v17 h3 h4 r17 r18 r19 r20 v18 r21 r22 r23 v19 h1 g0 f20 h2 g1 f21 h3 g2 f22 h4 g3 f23))) (va_Qv (fun (_ : Unit) => True) (fun (_ : Unit) (t : State) => (∃ (o_h0_35 : Int32) (o_h0_36 : Int32) (o_h3 : Nat → Int32) (o_h4 : Nat → Int32), va_P (dC, dI) vwCl (wd_90cd99f9 h0 v0 r0 v1 v2 v3 v4 r1 r2 r3 r4 r5 r6 r7 v5 v6 r8 r9 r10 r11 v7 h1 r12 v8 v9 h2 r13 v10 v11 r14 v12 v13 r15 v14 w15 r16 o_h0_35 o_h0_36 h3 h4 r17 r18 r19 r20 v18 r21 r22 r23 v19 h1 g0 f20 h2 g1 f21 h3 g2 o_h3 h4 g3 o_h4) t.heap ∧ va_K (dC, dI) vwCl [] t ∧ va_D (va_A (wd_90cd99f9 h0 v0 r0 v1 v2 v3 v4 r1 r2 r3 r4 r5 r6 r7 v5 v6 r8 r9 r10 r11 v7 h1 r12 v8 v9 h2 r13 v10 v11 r14 v12 v13 r15 v14 w15 r16 v16 v17 h3 h4 r17 r18 r19 r20 v18 r21 r22 r23 v19 h1 g0 f20 h2 g1 f21 h3 g2 f22 h4 g3 f23) sz) (wd_90cd99f9 h0 v0 r0 v1 v2 v3 v4 r1 r2 r3 r4 r5 r6 r7 v5 v6 r8 r9 r10 r11 v7 h1 r12 v8 v9 h2 r13 v10 v11 r14 v12 v13 r15 v14 w15 r16 o_h0_35 o_h0_36 h3 h4 r17 r18 r19 r20 v18 r21 r22 r23 v19 h1 g0 f20 h2 g1 f21 h3 g2 o_h3 h4 g3 o_h4))) (va_A (wd_90cd99f9 h0 v0 r0 v1 v2 v3 v4 r1 r2 r3 r4 r5 r6 r7 v5 v6 r8 r9 r10 r11 v7 h1 r12 v8 v9 h2 r13 v10 v11 r14 v12 v13 r15 v14 w15 r16 v16 v17 h3 h4 r17 r18 r19 r20 v18 r21 r22 r23 v19 h1 g0 f20 h2 g1 f21 h3 g2 f22 h4 g3 f23) sz)) 0 0 (va_A (wd_90cd99f9 h0 v0 r0 v1 v2 v3 v4 r1 r2 r3 r4 r5 r6 r7 v5 v6 r8 r9 r10 r11 v7 h1 r12 v8 v9 h2 r13 v10 v11 r14 v12 v13 r15 v14 w15 r16 v16 v17 h3 h4 r17 r18 r19 r20 v18 r21 r22 r23 v19 h1 g0 f20 h2 g1 f21 h3 g2 f22 h4 g3 f23) sz) := by
  refine Met.ofW (cc := cX12_tryShelf) (maxL := 7) (ret := none) (by decide) rfl ?_
  intro p e s m args below meth c s₁ B hml hv
  obtain ⟨i_v1a, i_v1b⟩ := i_v1
  obtain ⟨i_v5a, i_v5b⟩ := i_v5
  obtain ⟨i_v6a, i_v6b⟩ := i_v6
  obtain ⟨i_v7a, i_v7b⟩ := i_v7
  obtain ⟨i_v8a, i_v8b⟩ := i_v8
  obtain ⟨i_v9a, i_v9b⟩ := i_v9
  obtain ⟨i_v10a, i_v10b⟩ := i_v10
  obtain ⟨i_v14a, i_v14b⟩ := i_v14
  obtain ⟨i_v18a, i_v18b⟩ := i_v18
  obtain ⟨i_v19a, i_v19b⟩ := i_v19
  obtain ⟨i_v26a, i_v26b⟩ := i_v26
  obtain ⟨rfl, hsz, hP, hK, hD0⟩ := hv
  have hx := B.exec
  have hb := B.bytes
  have hr := B.returns
  have hts := atoms_spec (ws := q_X12_tryShelf_4) B.pre
  have hown : s.vm.findClass RX12 = some m.cls := findClass_of_methodNamed B.named
  have hlocks := B.notSynchronized
  subst hsz
  have hD := hD0.self (sz := s.heap.size)
  generalize hAe : va_A (wd_90cd99f9 h0 v0 r0 v1 v2 v3 v4 r1 r2 r3 r4 r5 r6 r7 v5 v6 r8 r9 r10 r11 v7 h1 r12 v8 v9 h2 r13 v10 v11 r14 v12 v13 r15 v14 w15 r16 v16 v17 h3 h4 r17 r18 r19 r20 v18 r21 r22 r23 v19 h1 g0 f20 h2 g1 f21 h3 g2 f22 h4 g3 f23) s.heap.size = A at hD ⊢
  have hA : ∀ q : Nat, s.heap.size ≤ q → A q := fun q h => by rw [← hAe]; exact Or.inr h
  have hS : va_S A s.heap s.heap [] := va_S.rf
  generalize hQ : (MQ below _ _ s 0 0 A) = Q
  have hl := lv_entry ([.ref h0, .int 4, .int v24, .int v25, .int v26]) (n := 7) (Nat.le_of_ble_eq_true rfl)
  rw [lg_entry_eq]
  generalize (lg_sl ([.ref h0, .int 4, .int v24, .int v25, .int v26]) ++ List.replicate (7 - (lg_sl ([.ref h0, .int 4, .int v24, .int v25, .int v26])).length) Slot.unset).toArray = ls at hl ⊢
  have hl : lv_has ls 7 [(0, .ref h0), (1, .int 4), (2, .int v24), (3, .int v25), (4, .int v26)] := hl
  obtain ⟨H, hH⟩ : ∃ H : Heap, H = s.heap := ⟨_, rfl⟩
  obtain ⟨locs, hlocs⟩ : ∃ y : List Loc, y = [] := ⟨_, rfl⟩
  have hS : va_S A s.heap H locs := by rw [hH, hlocs]; exact va_S.rf
  have hP : va_P (dC, dI) vwCl (wd_90cd99f9 h0 v0 r0 v1 v2 v3 v4 r1 r2 r3 r4 r5 r6 r7 v5 v6 r8 r9 r10 r11 v7 h1 r12 v8 v9 h2 r13 v10 v11 r14 v12 v13 r15 v14 w15 r16 v16 v17 h3 h4 r17 r18 r19 r20 v18 r21 r22 r23 v19 h1 g0 f20 h2 g1 f21 h3 g2 f22 h4 g3 f23) H := by rw [hH]; exact hP
  rw [← hH, ← hlocs]
  refine lv_aload_n hx hb dX12_tryShelf_0 rfl (lv_at hl 0 rfl) ?_
  refine va_get (D := (dC, dI)) (ci := 12) (v := .int v16) (C := RX12) (T := TX12) (N := 48) hx hb hts (fun _ h => List.mem_cons_of_mem _ (List.mem_append_right _ h)) hown hK hP 0 rfl rfl 35 (by decide) (hts (.fieldLink RX12 388 "LeftArgumentsModel" "bestRow" "I") (List.mem_cons_of_mem _ (List.mem_append_left _ (List.mem_of_getElem? (i := 0) rfl)))) (fun _ h9 => h9) rfl dX12_tryShelf_1 ?_
  refine lv_iconst (v := (-1)) hx hb dX12_tryShelf_4 (by decide) ?_
  refine lv_icmp_eq (tgt := 17) hx hb dX12_tryShelf_5 (by decide) (fun c1 => ?_) (fun c1 => ?_)
  · skip
    have fc1 : v16.toInt = (-1) := congrArg Int32.toInt c1
    refine lv_iload_n hx hb dX12_tryShelf_17 rfl (lv_at hl 1 rfl) ?_
    refine lv_bipush (v := 8) hx hb dX12_tryShelf_18 (by decide) ?_
    refine lv_icmp_ne (tgt := 34) hx hb dX12_tryShelf_20 (by decide) (fun _ => ?_) (fun c => absurd c (by decide))
    refine lv_aload_n hx hb dX12_tryShelf_34 rfl (lv_at hl 0 rfl) ?_
    refine lv_iload_n hx hb dX12_tryShelf_35 rfl (lv_at hl 1 rfl) ?_
    have hPc := hP.sub (ws' := (wd_5013416a h0 v0 r0 v1 v2 v3 v4 r1 r2 r3 r4 r5 r6 r7 v5 v6 r8 r9 r10 r11 v7 h1 r12 v8 v9 h2 r13 v10 v11 r14 v12 v13 r15 v14 w15 r16 v16 v17 h3 h4 r17 r18 r19 r20 v18 r21 r22 r23 v19 h2 g1 f21)) [0, 2] rfl
    have hDc := hD.sub (ws' := (wd_5013416a h0 v0 r0 v1 v2 v3 v4 r1 r2 r3 r4 r5 r6 r7 v5 v6 r8 r9 r10 r11 v7 h1 r12 v8 v9 h2 r13 v10 v11 r14 v12 v13 r15 v14 w15 r16 v16 v17 h3 h4 r17 r18 r19 r20 v18 r21 r22 r23 v19 h2 g1 f21)) [0, 2] (by decide) rfl
    have hKc := hK.sub (tys' := [(g1, .int)]) [1] rfl
    have hFc := va_free (wc := (wd_5013416a h0 v0 r0 v1 v2 v3 v4 r1 r2 r3 r4 r5 r6 r7 v5 v6 r8 r9 r10 r11 v7 h1 r12 v8 v9 h2 r13 v10 v11 r14 v12 v13 r15 v14 w15 r16 v16 v17 h3 h4 r17 r18 r19 r20 v18 r21 r22 r23 v19 h2 g1 f21)) hD hS hA [0, 2] rfl
    refine va_calli (va_runV (As := [.int 4]) (rest := []) ⟨hx, hb, hml, hown, hts⟩ (k_X12_isThere l dC dI h0 h2 v0 r0 v1 v2 v3 v4 r1 r2 r3 r4 r5 r6 r7 v5 v6 r8 r9 r10 r11 v7 h1 r12 v8 v9 r13 v10 v11 r14 v12 v13 r15 v14 w15 r16 v16 v17 h3 h4 r17 r18 r19 r20 v18 r21 r22 r23 v19 g1 f21 4 ⟨i_v1a, i_v1b⟩ ⟨i_v5a, i_v5b⟩ ⟨i_v6a, i_v6b⟩ ⟨i_v7a, i_v7b⟩ ⟨i_v8a, i_v8b⟩ ⟨i_v9a, i_v9b⟩ ⟨i_v10a, i_v10b⟩ ⟨i_v14a, i_v14b⟩ ⟨i_v18a, i_v18b⟩ ⟨i_v19a, i_v19b⟩ ia_f21.1 H.size) (cwV 1 hts g_X12_tryShelf_4_0 rfl rfl rfl (by decide +kernel) ⟨Nat.le_of_ble_eq_true rfl, Nat.le_of_ble_eq_true rfl⟩) (pv_PV12 hPc hKc hDc (q0 := 0) rfl) rfl rfl hl.1 rfl (lv_room (Nat.le_of_ble_eq_true rfl)) dX12_tryShelf_36 ⟨Nat.le_of_ble_eq_true rfl, Nat.le_of_ble_eq_true rfl⟩) hS (fun q _ h => hFc q h) hFc (fun ra2 u t H1 locs ht hvm hwra2 hB hz1 hk1 hS => ?_)
    try rw [hwra2] at hB
    have hkra2_0 : ((4 : Int32)).toInt = 4 := by decide
    obtain ⟨pt0_ra2, pt1_ra2, pt2_ra2, pt3_ra2, pt4_ra2, pt5_ra2, hP1, hK1, hD1⟩ := hB
    rw [ht] at hP1
    obtain ⟨hP2, hD2⟩ := va_join (wr := (wd_20b67a68 h1 g0 f20 h3 g2 f22 h4 g3 f23)) (w1 := (wd_5013416a h0 v0 r0 v1 v2 v3 v4 r1 r2 r3 r4 r5 r6 r7 v5 v6 r8 r9 r10 r11 v7 h1 r12 v8 v9 h2 r13 v10 v11 r14 v12 v13 r15 v14 w15 r16 v16 v17 h3 h4 r17 r18 r19 r20 v18 r21 r22 r23 v19 h2 g1 f21)) hP hD [0, 2] [1, 3, 4] rfl rfl (by decide) (by decide) hk1 hFc hP1 hD1
    clear hP hD hPc hDc hKc hFc hP1 hK1 hD1 hk1 hz1
    generalize H1 = H at hP2 hS ⊢
    have hP := hP2.sub (ws' := (wd_90cd99f9 h0 v0 r0 v1 v2 v3 v4 r1 r2 r3 r4 r5 r6 r7 v5 v6 r8 r9 r10 r11 v7 h1 r12 v8 v9 h2 r13 v10 v11 r14 v12 v13 r15 v14 w15 r16 v16 v17 h3 h4 r17 r18 r19 r20 v18 r21 r22 r23 v19 h1 g0 f20 h2 g1 f21 h3 g2 f22 h4 g3 f23)) [3, 0, 4, 1, 2] rfl
    have hD := hD2.sub (ws' := (wd_90cd99f9 h0 v0 r0 v1 v2 v3 v4 r1 r2 r3 r4 r5 r6 r7 v5 v6 r8 r9 r10 r11 v7 h1 r12 v8 v9 h2 r13 v10 v11 r14 v12 v13 r15 v14 w15 r16 v16 v17 h3 h4 r17 r18 r19 r20 v18 r21 r22 r23 v19 h1 g0 f20 h2 g1 f21 h3 g2 f22 h4 g3 f23)) [3, 0, 4, 1, 2] (by decide) rfl
    clear hP2 hD2
    have wra2 : ra2.toInt = 0 → ¬ f21 (pm_I 4 7) = 1 := fun h9 => pt5_ra2 h9 (by omega) (by omega)
    refine lv_if_ne (tgt := 54) hx hb dX12_tryShelf_39 (by decide) (fun c3 => ?_) (fun c3 => ?_)
    · skip
      have fc3 : ¬ (ra2.toInt = 0) := fun h9 => c3 (Int32.toInt_inj.mp h9)
      have q1pt4_ra2 := pt4_ra2 (by omega)
      refine lv_iload hx hb dX12_tryShelf_54 (lv_at hl 4 rfl) ?_
      have hJ5 : ∀ (x4 : Int32) (H : Heap) (locs : List Loc) (ls : Array Slot), 0 ≤ x4.toInt → x4.toInt ≤ 8 → va_P (dC, dI) vwCl (wd_90cd99f9 h0 v0 r0 v1 v2 v3 v4 r1 r2 r3 r4 r5 r6 r7 v5 v6 r8 r9 r10 r11 v7 h1 r12 v8 v9 h2 r13 v10 v11 r14 v12 v13 r15 v14 w15 r16 v16 v17 h3 h4 r17 r18 r19 r20 v18 r21 r22 r23 v19 h1 g0 f20 h2 g1 f21 h3 g2 f22 h4 g3 f23) H → va_D A (wd_90cd99f9 h0 v0 r0 v1 v2 v3 v4 r1 r2 r3 r4 r5 r6 r7 v5 v6 r8 r9 r10 r11 v7 h1 r12 v8 v9 h2 r13 v10 v11 r14 v12 v13 r15 v14 w15 r16 v16 v17 h3 h4 r17 r18 r19 r20 v18 r21 r22 r23 v19 h1 g0 f20 h2 g1 f21 h3 g2 f22 h4 g3 f23) → va_S A s.heap H locs → lv_has ls 7 [(0, .ref h0), (1, .int 4), (2, .int v24), (3, .int v25), (4, .int v26)] → W p l e ({ frames := 7, cells := 0, slots := 0, locals := 166 }) s m ([.ref h0, .int 4, .int v24, .int v25, .int v26] : List Value).toArray below meth c H locs 0 0 Q (F0 m 70 ls [.int x4]) := by
        intro x4 H locs ls qa_x4 qb_x4 hP hD hS hl
        refine lv_istore (lv' := [(5, .int x4), (0, .ref h0), (1, .int 4), (2, .int v24), (3, .int v25), (4, .int v26)]) hx hb dX12_tryShelf_70 hl (by decide) rfl (fun ls hl => ?_)
        refine lv_iconst (v := 0) hx hb dX12_tryShelf_72 (by decide) ?_
        refine lv_istore (lv' := [(6, .int 0), (5, .int x4), (0, .ref h0), (1, .int 4), (2, .int v24), (3, .int v25), (4, .int v26)]) hx hb dX12_tryShelf_73 hl (by decide) rfl (fun ls hl => ?_)
        have hL31 : ∀ (n9 : Nat), ∀ (x21 : Int32) (x22 : Int32) (x23 : Int32) (fn24 : Nat → Int32) (fn25 : Nat → Int32) (H : Heap) (locs : List Loc) (ls : Array Slot), 0 ≤ x21.toInt → x21.toInt ≤ 8 → (8 - x21.toInt).toNat < n9 → va_P (dC, dI) vwCl (wd_90cd99f9 h0 v0 r0 v1 v2 v3 v4 r1 r2 r3 r4 r5 r6 r7 v5 v6 r8 r9 r10 r11 v7 h1 r12 v8 v9 h2 r13 v10 v11 r14 v12 v13 r15 v14 w15 r16 x22 x23 h3 h4 r17 r18 r19 r20 v18 r21 r22 r23 v19 h1 g0 f20 h2 g1 f21 h3 g2 fn24 h4 g3 fn25) H → va_D A (wd_90cd99f9 h0 v0 r0 v1 v2 v3 v4 r1 r2 r3 r4 r5 r6 r7 v5 v6 r8 r9 r10 r11 v7 h1 r12 v8 v9 h2 r13 v10 v11 r14 v12 v13 r15 v14 w15 r16 x22 x23 h3 h4 r17 r18 r19 r20 v18 r21 r22 r23 v19 h1 g0 f20 h2 g1 f21 h3 g2 fn24 h4 g3 fn25) → va_S A s.heap H locs → lv_has ls 7 [(6, .int x21), (5, .int x4), (0, .ref h0), (1, .int 4), (2, .int v24), (3, .int v25), (4, .int v26)] → W p l e ({ frames := 7, cells := 0, slots := 0, locals := 166 }) s m ([.ref h0, .int 4, .int v24, .int v25, .int v26] : List Value).toArray below meth c H locs 0 0 Q (F0 m 75 ls []) := by
          intro n9
          induction n9 with
          | zero => intro x21 x22 x23 fn24 fn25 H locs ls qa_x21 qb_x21 hm9 hP hD hS hl; exact absurd hm9 (Nat.not_lt_zero _)
          | succ n9 ih_hL31 =>
            intro x21 x22 x23 fn24 fn25 H locs ls qa_x21 qb_x21 hm9 hP hD hS hl
            refine lv_iload hx hb dX12_tryShelf_75 (lv_at hl 0 rfl) ?_
            refine lv_iload hx hb dX12_tryShelf_77 (lv_at hl 1 rfl) ?_
            refine lv_icmp_ge (tgt := 208) hx hb dX12_tryShelf_79 (by decide) (fun c32 => ?_) (fun c32 => ?_)
            · skip
              have fc32 : x4.toInt ≤ x21.toInt := Int32.le_iff_toInt_le.mp c32
              have r1c32 := Int32.toInt_lt x21
              have r2c32 := Int32.toInt_lt x4
              have r3c32 := Int32.le_toInt x21
              have r4c32 := Int32.le_toInt x4
              subst hQ
              have hP9 := hP.sub (ws' := (wd_90cd99f9 h0 v0 r0 v1 v2 v3 v4 r1 r2 r3 r4 r5 r6 r7 v5 v6 r8 r9 r10 r11 v7 h1 r12 v8 v9 h2 r13 v10 v11 r14 v12 v13 r15 v14 w15 r16 x22 x23 h3 h4 r17 r18 r19 r20 v18 r21 r22 r23 v19 h1 g0 f20 h2 g1 f21 h3 g2 fn24 h4 g3 fn25)) [0, 1, 2, 3, 4] rfl
              have hD9 := hD.sub (ws' := (wd_90cd99f9 h0 v0 r0 v1 v2 v3 v4 r1 r2 r3 r4 r5 r6 r7 v5 v6 r8 r9 r10 r11 v7 h1 r12 v8 v9 h2 r13 v10 v11 r14 v12 v13 r15 v14 w15 r16 x22 x23 h3 h4 r17 r18 r19 r20 v18 r21 r22 r23 v19 h1 g0 f20 h2 g1 f21 h3 g2 fn24 h4 g3 fn25)) [0, 1, 2, 3, 4] (by decide) rfl
              have hK9 := hK.sub (tys' := []) [] rfl
              exact W.vret hx hb hr (fun t ht hW => ⟨⟨(), rfl, trivial, ⟨x22, x23, fn24, fn25, by rw [ht]; exact hP9, va_K.moved hW.alike hK9, hD9⟩⟩, hS.F ht⟩) hS.2.2 dX12_tryShelf_208
            · skip
              have fc32 : ¬ (x4.toInt ≤ x21.toInt) := fun h9 => c32 (Int32.le_iff_toInt_le.mpr h9)
              have r1c32 := Int32.toInt_lt x21
              have r2c32 := Int32.toInt_lt x4
              have r3c32 := Int32.le_toInt x21
              have r4c32 := Int32.le_toInt x4
              refine lv_iload hx hb dX12_tryShelf_82 (lv_at hl 6 rfl) ?_
              have hJ37 : ∀ (x33 : Int32) (x34 : Int32) (fn35 : Nat → Int32) (fn36 : Nat → Int32) (H : Heap) (locs : List Loc) (ls : Array Slot), va_P (dC, dI) vwCl (wd_90cd99f9 h0 v0 r0 v1 v2 v3 v4 r1 r2 r3 r4 r5 r6 r7 v5 v6 r8 r9 r10 r11 v7 h1 r12 v8 v9 h2 r13 v10 v11 r14 v12 v13 r15 v14 w15 r16 x33 x34 h3 h4 r17 r18 r19 r20 v18 r21 r22 r23 v19 h1 g0 f20 h2 g1 f21 h3 g2 fn35 h4 g3 fn36) H → va_D A (wd_90cd99f9 h0 v0 r0 v1 v2 v3 v4 r1 r2 r3 r4 r5 r6 r7 v5 v6 r8 r9 r10 r11 v7 h1 r12 v8 v9 h2 r13 v10 v11 r14 v12 v13 r15 v14 w15 r16 x33 x34 h3 h4 r17 r18 r19 r20 v18 r21 r22 r23 v19 h1 g0 f20 h2 g1 f21 h3 g2 fn35 h4 g3 fn36) → va_S A s.heap H locs → lv_has ls 7 [(6, .int x21), (5, .int x4), (0, .ref h0), (1, .int 4), (2, .int v24), (3, .int v25), (4, .int v26)] → W p l e ({ frames := 7, cells := 0, slots := 0, locals := 166 }) s m ([.ref h0, .int 4, .int v24, .int v25, .int v26] : List Value).toArray below meth c H locs 0 0 Q (F0 m 202 ls []) := by
                intro x33 x34 fn35 fn36 H locs ls hP hD hS hl
                obtain ⟨t38, et38⟩ : ∃ y : Int32, y = x21 + 1 := ⟨_, rfl⟩
                have gt38 : t38.toInt = x21.toInt + (1) := pv_add (a := x21.toInt) (b := (1)) et38 rfl (by decide) (by omega) (by omega)
                refine lv_iinc (v := t38) (lv' := [(6, .int t38), (5, .int x4), (0, .ref h0), (1, .int 4), (2, .int v24), (3, .int v25), (4, .int v26)]) hx hb dX12_tryShelf_202 hl (k := 0) rfl (by rw [et38]; rfl) (by decide) rfl (fun ls hl => ?_)
                refine lv_goto (tgt := 75) hx hb dX12_tryShelf_205 (by decide) ?_
                exact ih_hL31 t38 x33 x34 fn35 fn36 H locs ls (by first | omega | decide) (by first | omega | decide) (by first | omega | (simp only [Int.toNat] at *; omega)) hP hD hS (lv_sub hl [0, 1, 2, 3, 4, 5, 6] rfl)
              refine lv_if_eq (tgt := 113) hx hb dX12_tryShelf_84 (by decide) (fun c39 => ?_) (fun c39 => ?_)
              · skip
                have fc39 : v26.toInt = 0 := congrArg Int32.toInt c39
                refine lv_aload_n hx hb dX12_tryShelf_113 rfl (lv_at hl 2 rfl) ?_
                refine lv_iload_n hx hb dX12_tryShelf_114 rfl (lv_at hl 3 rfl) ?_
                refine lv_iload hx hb dX12_tryShelf_115 (lv_at hl 0 rfl) ?_
                have hPc := hP.sub (ws' := (wd_f4deda84 h0 v0 r0 v1 v2 v3 v4 r1 r2 r3 r4 r5 r6 r7 v5 v6 r8 r9 r10 r11 v7 h1 r12 v8 v9 h2 r13 v10 v11 r14 v12 v13 r15 v14 w15 r16 x22 x23 h3 h4 r17 r18 r19 r20 v18 r21 r22 r23 v19 h2 g1 f21 h3 g2 fn24)) [0, 2, 3] rfl
                have hDc := hD.sub (ws' := (wd_f4deda84 h0 v0 r0 v1 v2 v3 v4 r1 r2 r3 r4 r5 r6 r7 v5 v6 r8 r9 r10 r11 v7 h1 r12 v8 v9 h2 r13 v10 v11 r14 v12 v13 r15 v14 w15 r16 x22 x23 h3 h4 r17 r18 r19 r20 v18 r21 r22 r23 v19 h2 g1 f21 h3 g2 fn24)) [0, 2, 3] (by decide) rfl
                have hKc := hK.sub (tys' := [(g1, .int), (g2, .int)]) [1, 2] rfl
                have hFc := va_free (wc := (wd_f4deda84 h0 v0 r0 v1 v2 v3 v4 r1 r2 r3 r4 r5 r6 r7 v5 v6 r8 r9 r10 r11 v7 h1 r12 v8 v9 h2 r13 v10 v11 r14 v12 v13 r15 v14 w15 r16 x22 x23 h3 h4 r17 r18 r19 r20 v18 r21 r22 r23 v19 h2 g1 f21 h3 g2 fn24)) hD hS hA [0, 2, 3] rfl
                refine va_calli (va_runV (As := [.int 4, .int x21]) (rest := []) ⟨hx, hb, hml, hown, hts⟩ (k_X12_isCalm l dC dI h0 h2 h3 v0 r0 v1 v2 v3 v4 r1 r2 r3 r4 r5 r6 r7 v5 v6 r8 r9 r10 r11 v7 h1 r12 v8 v9 r13 v10 v11 r14 v12 v13 r15 v14 w15 r16 x22 x23 h4 r17 r18 r19 r20 v18 r21 r22 r23 v19 g1 f21 g2 fn24 4 x21 ⟨i_v1a, i_v1b⟩ ⟨i_v5a, i_v5b⟩ ⟨i_v6a, i_v6b⟩ ⟨i_v7a, i_v7b⟩ ⟨i_v8a, i_v8b⟩ ⟨i_v9a, i_v9b⟩ ⟨i_v10a, i_v10b⟩ ⟨i_v14a, i_v14b⟩ ⟨i_v18a, i_v18b⟩ ⟨i_v19a, i_v19b⟩ ⟨by decide, by decide⟩ ia_f21 H.size) (cwV 2 hts g_X12_tryShelf_4_1 rfl rfl rfl (by decide +kernel) ⟨Nat.le_of_ble_eq_true rfl, Nat.le_of_ble_eq_true rfl⟩) (pv_PV12 hPc hKc hDc (q0 := 0) rfl) rfl rfl hl.1 rfl (lv_room (Nat.le_of_ble_eq_true rfl)) dX12_tryShelf_117 ⟨Nat.le_of_ble_eq_true rfl, Nat.le_of_ble_eq_true rfl⟩) hS (fun q _ h => hFc q h) hFc (fun ra40 u t H1 locs ht hvm hwra40 hB hz1 hk1 hS => ?_)
                try rw [hwra40] at hB
                have hkra40_0 : ((4 : Int32)).toInt = 4 := by decide
                obtain ⟨pt0_ra40, pt1_ra40, hP1, hK1, hD1⟩ := hB
                rw [ht] at hP1
                obtain ⟨hP2, hD2⟩ := va_join (wr := (wd_5481fbec h1 g0 f20 h4 g3 fn25)) (w1 := (wd_f4deda84 h0 v0 r0 v1 v2 v3 v4 r1 r2 r3 r4 r5 r6 r7 v5 v6 r8 r9 r10 r11 v7 h1 r12 v8 v9 h2 r13 v10 v11 r14 v12 v13 r15 v14 w15 r16 x22 x23 h3 h4 r17 r18 r19 r20 v18 r21 r22 r23 v19 h2 g1 f21 h3 g2 fn24)) hP hD [0, 2, 3] [1, 4] rfl rfl (by decide) (by decide) hk1 hFc hP1 hD1
                clear hP hD hPc hDc hKc hFc hP1 hK1 hD1 hk1 hz1
                generalize H1 = H at hP2 hS ⊢
                have hP := hP2.sub (ws' := (wd_90cd99f9 h0 v0 r0 v1 v2 v3 v4 r1 r2 r3 r4 r5 r6 r7 v5 v6 r8 r9 r10 r11 v7 h1 r12 v8 v9 h2 r13 v10 v11 r14 v12 v13 r15 v14 w15 r16 x22 x23 h3 h4 r17 r18 r19 r20 v18 r21 r22 r23 v19 h1 g0 f20 h2 g1 f21 h3 g2 fn24 h4 g3 fn25)) [2, 0, 3, 4, 1] rfl
                have hD := hD2.sub (ws' := (wd_90cd99f9 h0 v0 r0 v1 v2 v3 v4 r1 r2 r3 r4 r5 r6 r7 v5 v6 r8 r9 r10 r11 v7 h1 r12 v8 v9 h2 r13 v10 v11 r14 v12 v13 r15 v14 w15 r16 x22 x23 h3 h4 r17 r18 r19 r20 v18 r21 r22 r23 v19 h1 g0 f20 h2 g1 f21 h3 g2 fn24 h4 g3 fn25)) [2, 0, 3, 4, 1] (by decide) rfl
                clear hP2 hD2
                refine lv_if_eq (tgt := 202) hx hb dX12_tryShelf_120 (by decide) (fun c41 => ?_) (fun c41 => ?_)
                · skip
                  have fc41 : ra40.toInt = 0 := congrArg Int32.toInt c41
                  exact hJ37 x22 x23 fn24 fn25 H locs ls hP hD hS (lv_sub hl [0, 1, 2, 3, 4, 5, 6] rfl)
                · skip
                  have fc41 : ¬ (ra40.toInt = 0) := fun h9 => c41 (Int32.toInt_inj.mp h9)
                  refine lv_aload_n hx hb dX12_tryShelf_123 rfl (lv_at hl 2 rfl) ?_
                  refine va_get (D := (dC, dI)) (ci := 12) (v := .ref h4) (C := RX12) (T := TX12) (N := 48) hx hb hts (fun _ h => List.mem_cons_of_mem _ (List.mem_append_right _ h)) hown hK hP 0 rfl rfl 38 (by decide) (hts (.fieldLink RX12 77 "LeftArgumentsModel" "room" "[I") (List.mem_cons_of_mem _ (List.mem_append_left _ (List.mem_of_getElem? (i := 31) rfl)))) (fun _ h9 => h9) rfl dX12_tryShelf_124 ?_
                  refine lv_iload hx hb dX12_tryShelf_127 (lv_at hl 0 rfl) ?_
                  refine lv_dup2_11 hx hb dX12_tryShelf_129 rfl rfl ?_
                  refine va_iald hx hb hK hP 4 3 rfl rfl (vp_in_iff.mpr ⟨by omega, by omega⟩) dX12_tryShelf_130 ?_
                  refine lv_topi (fun t42 et42 => ?_)
                  refine lv_aload_n hx hb dX12_tryShelf_131 rfl (lv_at hl 2 rfl) ?_
                  refine lv_iload_n hx hb dX12_tryShelf_132 rfl (lv_at hl 3 rfl) ?_
                  refine lv_iconst (v := 0) hx hb dX12_tryShelf_133 (by decide) ?_
                  have hPc := hP.sub (ws' := (wd_5013416a h0 v0 r0 v1 v2 v3 v4 r1 r2 r3 r4 r5 r6 r7 v5 v6 r8 r9 r10 r11 v7 h1 r12 v8 v9 h2 r13 v10 v11 r14 v12 v13 r15 v14 w15 r16 x22 x23 h3 h4 r17 r18 r19 r20 v18 r21 r22 r23 v19 h2 g1 f21)) [0, 2] rfl
                  have hDc := hD.sub (ws' := (wd_5013416a h0 v0 r0 v1 v2 v3 v4 r1 r2 r3 r4 r5 r6 r7 v5 v6 r8 r9 r10 r11 v7 h1 r12 v8 v9 h2 r13 v10 v11 r14 v12 v13 r15 v14 w15 r16 x22 x23 h3 h4 r17 r18 r19 r20 v18 r21 r22 r23 v19 h2 g1 f21)) [0, 2] (by decide) rfl
                  have hKc := hK.sub (tys' := [(g1, .int)]) [1] rfl
                  have hFc := va_free (wc := (wd_5013416a h0 v0 r0 v1 v2 v3 v4 r1 r2 r3 r4 r5 r6 r7 v5 v6 r8 r9 r10 r11 v7 h1 r12 v8 v9 h2 r13 v10 v11 r14 v12 v13 r15 v14 w15 r16 x22 x23 h3 h4 r17 r18 r19 r20 v18 r21 r22 r23 v19 h2 g1 f21)) hD hS hA [0, 2] rfl
                  refine va_calli (va_runV (As := [.int 4, .int 0]) (rest := [.int t42, .int x21, .ref h4]) ⟨hx, hb, hml, hown, hts⟩ (k_X12_of_3 l dC dI h0 h2 v0 r0 v1 v2 v3 v4 r1 r2 r3 r4 r5 r6 r7 v5 v6 r8 r9 r10 r11 v7 h1 r12 v8 v9 r13 v10 v11 r14 v12 v13 r15 v14 w15 r16 x22 x23 h3 h4 r17 r18 r19 r20 v18 r21 r22 r23 v19 g1 f21 4 ⟨i_v1a, i_v1b⟩ ⟨i_v5a, i_v5b⟩ ⟨i_v6a, i_v6b⟩ ⟨i_v7a, i_v7b⟩ ⟨i_v8a, i_v8b⟩ ⟨i_v9a, i_v9b⟩ ⟨i_v10a, i_v10b⟩ ⟨i_v14a, i_v14b⟩ ⟨i_v18a, i_v18b⟩ ⟨i_v19a, i_v19b⟩ ⟨by decide, by decide⟩ ia_f21.1 H.size) (cwV 2 hts g_X12_tryShelf_4_2 rfl rfl rfl (by decide +kernel) ⟨Nat.le_of_ble_eq_true rfl, Nat.le_of_ble_eq_true rfl⟩) (pv_PV12 hPc hKc hDc (q0 := 0) rfl) rfl rfl hl.1 rfl (lv_room (Nat.le_of_ble_eq_true rfl)) dX12_tryShelf_134 ⟨Nat.le_of_ble_eq_true rfl, Nat.le_of_ble_eq_true rfl⟩) hS (fun q _ h => hFc q h) hFc (fun ra43 u t H1 locs ht hvm hwra43 hB hz1 hk1 hS => ?_)
                  try rw [hwra43] at hB
                  have hkra43_0 : ((4 : Int32)).toInt = 4 := by decide
                  obtain ⟨pt0_ra43, pt1_ra43, pt2_ra43, hP1, hK1, hD1⟩ := hB
                  rw [ht] at hP1
                  obtain ⟨hP2, hD2⟩ := va_join (wr := (wd_20b67a68 h1 g0 f20 h3 g2 fn24 h4 g3 fn25)) (w1 := (wd_5013416a h0 v0 r0 v1 v2 v3 v4 r1 r2 r3 r4 r5 r6 r7 v5 v6 r8 r9 r10 r11 v7 h1 r12 v8 v9 h2 r13 v10 v11 r14 v12 v13 r15 v14 w15 r16 x22 x23 h3 h4 r17 r18 r19 r20 v18 r21 r22 r23 v19 h2 g1 f21)) hP hD [0, 2] [1, 3, 4] rfl rfl (by decide) (by decide) hk1 hFc hP1 hD1
                  clear hP hD hPc hDc hKc hFc hP1 hK1 hD1 hk1 hz1
                  generalize H1 = H at hP2 hS ⊢
                  have hP := hP2.sub (ws' := (wd_90cd99f9 h0 v0 r0 v1 v2 v3 v4 r1 r2 r3 r4 r5 r6 r7 v5 v6 r8 r9 r10 r11 v7 h1 r12 v8 v9 h2 r13 v10 v11 r14 v12 v13 r15 v14 w15 r16 x22 x23 h3 h4 r17 r18 r19 r20 v18 r21 r22 r23 v19 h1 g0 f20 h2 g1 f21 h3 g2 fn24 h4 g3 fn25)) [3, 0, 4, 1, 2] rfl
                  have hD := hD2.sub (ws' := (wd_90cd99f9 h0 v0 r0 v1 v2 v3 v4 r1 r2 r3 r4 r5 r6 r7 v5 v6 r8 r9 r10 r11 v7 h1 r12 v8 v9 h2 r13 v10 v11 r14 v12 v13 r15 v14 w15 r16 x22 x23 h3 h4 r17 r18 r19 r20 v18 r21 r22 r23 v19 h1 g0 f20 h2 g1 f21 h3 g2 fn24 h4 g3 fn25)) [3, 0, 4, 1, 2] (by decide) rfl
                  clear hP2 hD2
                  refine lv_iadd hx hb dX12_tryShelf_137 ?_
                  refine lv_topi (fun t44 et44 => ?_)
                  refine va_iast hx hb hK hP hD hS 4 3 rfl rfl (vp_in_iff.mpr ⟨by omega, by omega⟩) dX12_tryShelf_138 (fun H locs hP hD hS => ?_)
                  obtain ⟨fn45, efn45⟩ : ∃ g : Nat → Int32, g = upd fn25 (Int32.toNatClampNeg x21) t44 := ⟨_, rfl⟩
                  rw [← efn45] at hP hD
                  have hP : va_P (dC, dI) vwCl (wd_90cd99f9 h0 v0 r0 v1 v2 v3 v4 r1 r2 r3 r4 r5 r6 r7 v5 v6 r8 r9 r10 r11 v7 h1 r12 v8 v9 h2 r13 v10 v11 r14 v12 v13 r15 v14 w15 r16 x22 x23 h3 h4 r17 r18 r19 r20 v18 r21 r22 r23 v19 h1 g0 f20 h2 g1 f21 h3 g2 fn24 h4 g3 fn45) H := hP
                  have hD : va_D A (wd_90cd99f9 h0 v0 r0 v1 v2 v3 v4 r1 r2 r3 r4 r5 r6 r7 v5 v6 r8 r9 r10 r11 v7 h1 r12 v8 v9 h2 r13 v10 v11 r14 v12 v13 r15 v14 w15 r16 x22 x23 h3 h4 r17 r18 r19 r20 v18 r21 r22 r23 v19 h1 g0 f20 h2 g1 f21 h3 g2 fn24 h4 g3 fn45) := hD
                  refine lv_aload_n hx hb dX12_tryShelf_139 rfl (lv_at hl 2 rfl) ?_
                  refine va_get (D := (dC, dI)) (ci := 12) (v := .ref h3) (C := RX12) (T := TX12) (N := 48) hx hb hts (fun _ h => List.mem_cons_of_mem _ (List.mem_append_right _ h)) hown hK hP 0 rfl rfl 37 (by decide) (hts (.fieldLink RX12 74 "LeftArgumentsModel" "onShelf" "[I") (List.mem_cons_of_mem _ (List.mem_append_left _ (List.mem_of_getElem? (i := 15) rfl)))) (fun _ h9 => h9) rfl dX12_tryShelf_140 ?_
                  refine lv_iload_n hx hb dX12_tryShelf_143 rfl (lv_at hl 3 rfl) ?_
                  refine lv_iload hx hb dX12_tryShelf_144 (lv_at hl 0 rfl) ?_
                  refine va_iast hx hb hK hP hD hS 3 2 rfl rfl (pv_c (x := 4) (n := 8) (by decide)) dX12_tryShelf_146 (fun H locs hP hD hS => ?_)
                  obtain ⟨fn46, efn46⟩ : ∃ g : Nat → Int32, g = upd fn24 (Int32.toNatClampNeg 4) x21 := ⟨_, rfl⟩
                  rw [← efn46] at hP hD
                  have hP : va_P (dC, dI) vwCl (wd_90cd99f9 h0 v0 r0 v1 v2 v3 v4 r1 r2 r3 r4 r5 r6 r7 v5 v6 r8 r9 r10 r11 v7 h1 r12 v8 v9 h2 r13 v10 v11 r14 v12 v13 r15 v14 w15 r16 x22 x23 h3 h4 r17 r18 r19 r20 v18 r21 r22 r23 v19 h1 g0 f20 h2 g1 f21 h3 g2 fn46 h4 g3 fn45) H := hP
                  have hD : va_D A (wd_90cd99f9 h0 v0 r0 v1 v2 v3 v4 r1 r2 r3 r4 r5 r6 r7 v5 v6 r8 r9 r10 r11 v7 h1 r12 v8 v9 h2 r13 v10 v11 r14 v12 v13 r15 v14 w15 r16 x22 x23 h3 h4 r17 r18 r19 r20 v18 r21 r22 r23 v19 h1 g0 f20 h2 g1 f21 h3 g2 fn46 h4 g3 fn45) := hD
                  refine lv_aload_n hx hb dX12_tryShelf_147 rfl (lv_at hl 2 rfl) ?_
                  refine lv_iload_n hx hb dX12_tryShelf_148 rfl (lv_at hl 3 rfl) ?_
                  refine lv_iconst (v := 1) hx hb dX12_tryShelf_149 (by decide) ?_
                  refine lv_iadd hx hb dX12_tryShelf_150 ?_
                  refine lv_topi (fun tv47 etv47 => ?_)
                  obtain rfl : tv47 = (5 : Int32) := etv47.trans (by first | rfl | decide)
                  refine lv_bipush (v := 10) hx hb dX12_tryShelf_151 (by decide) ?_
                  refine lv_iload_n hx hb dX12_tryShelf_153 rfl (lv_at hl 4 rfl) ?_
                  refine lv_imul hx hb dX12_tryShelf_154 ?_
                  refine lv_topi (fun t48 et48 => ?_)
                  refine lv_iload hx hb dX12_tryShelf_155 (lv_at hl 0 rfl) ?_
                  refine lv_iadd hx hb dX12_tryShelf_157 ?_
                  refine lv_topi (fun t49 et49 => ?_)
                  refine lv_iload_n hx hb dX12_tryShelf_158 rfl (lv_at hl 5 rfl) ?_
                  refine lv_aload_n hx hb dX12_tryShelf_159 rfl (lv_at hl 2 rfl) ?_
                  refine va_get (D := (dC, dI)) (ci := 12) (v := .ref h4) (C := RX12) (T := TX12) (N := 48) hx hb hts (fun _ h => List.mem_cons_of_mem _ (List.mem_append_right _ h)) hown hK hP 0 rfl rfl 38 (by decide) (hts (.fieldLink RX12 77 "LeftArgumentsModel" "room" "[I") (List.mem_cons_of_mem _ (List.mem_append_left _ (List.mem_of_getElem? (i := 31) rfl)))) (fun _ h9 => h9) rfl dX12_tryShelf_160 ?_
                  refine lv_iload hx hb dX12_tryShelf_163 (lv_at hl 0 rfl) ?_
                  refine va_iald hx hb hK hP 4 3 rfl rfl (vp_in_iff.mpr ⟨by omega, by omega⟩) dX12_tryShelf_165 ?_
                  refine lv_topi (fun t50 et50 => ?_)
                  refine lv_aload_n hx hb dX12_tryShelf_166 rfl (lv_at hl 2 rfl) ?_
                  refine lv_iload_n hx hb dX12_tryShelf_167 rfl (lv_at hl 3 rfl) ?_
                  refine lv_iconst (v := 0) hx hb dX12_tryShelf_168 (by decide) ?_
                  have hPc := hP.sub (ws' := (wd_5013416a h0 v0 r0 v1 v2 v3 v4 r1 r2 r3 r4 r5 r6 r7 v5 v6 r8 r9 r10 r11 v7 h1 r12 v8 v9 h2 r13 v10 v11 r14 v12 v13 r15 v14 w15 r16 x22 x23 h3 h4 r17 r18 r19 r20 v18 r21 r22 r23 v19 h2 g1 f21)) [0, 2] rfl
                  have hDc := hD.sub (ws' := (wd_5013416a h0 v0 r0 v1 v2 v3 v4 r1 r2 r3 r4 r5 r6 r7 v5 v6 r8 r9 r10 r11 v7 h1 r12 v8 v9 h2 r13 v10 v11 r14 v12 v13 r15 v14 w15 r16 x22 x23 h3 h4 r17 r18 r19 r20 v18 r21 r22 r23 v19 h2 g1 f21)) [0, 2] (by decide) rfl
                  have hKc := hK.sub (tys' := [(g1, .int)]) [1] rfl
                  have hFc := va_free (wc := (wd_5013416a h0 v0 r0 v1 v2 v3 v4 r1 r2 r3 r4 r5 r6 r7 v5 v6 r8 r9 r10 r11 v7 h1 r12 v8 v9 h2 r13 v10 v11 r14 v12 v13 r15 v14 w15 r16 x22 x23 h3 h4 r17 r18 r19 r20 v18 r21 r22 r23 v19 h2 g1 f21)) hD hS hA [0, 2] rfl
                  refine va_calli (va_runV (As := [.int 4, .int 0]) (rest := [.int t50, .int v25, .int t49, .int 5, .ref h0]) ⟨hx, hb, hml, hown, hts⟩ (k_X12_of_3 l dC dI h0 h2 v0 r0 v1 v2 v3 v4 r1 r2 r3 r4 r5 r6 r7 v5 v6 r8 r9 r10 r11 v7 h1 r12 v8 v9 r13 v10 v11 r14 v12 v13 r15 v14 w15 r16 x22 x23 h3 h4 r17 r18 r19 r20 v18 r21 r22 r23 v19 g1 f21 4 ⟨i_v1a, i_v1b⟩ ⟨i_v5a, i_v5b⟩ ⟨i_v6a, i_v6b⟩ ⟨i_v7a, i_v7b⟩ ⟨i_v8a, i_v8b⟩ ⟨i_v9a, i_v9b⟩ ⟨i_v10a, i_v10b⟩ ⟨i_v14a, i_v14b⟩ ⟨i_v18a, i_v18b⟩ ⟨i_v19a, i_v19b⟩ ⟨by decide, by decide⟩ ia_f21.1 H.size) (cwV 2 hts g_X12_tryShelf_4_2 rfl rfl rfl (by decide +kernel) ⟨Nat.le_of_ble_eq_true rfl, Nat.le_of_ble_eq_true rfl⟩) (pv_PV12 hPc hKc hDc (q0 := 0) rfl) rfl rfl hl.1 rfl (lv_room (Nat.le_of_ble_eq_true rfl)) dX12_tryShelf_169 ⟨Nat.le_of_ble_eq_true rfl, Nat.le_of_ble_eq_true rfl⟩) hS (fun q _ h => hFc q h) hFc (fun ra51 u t H1 locs ht hvm hwra51 hB hz1 hk1 hS => ?_)
                  try rw [hwra51] at hB
                  have hkra51_0 : ((4 : Int32)).toInt = 4 := by decide
                  obtain ⟨pt0_ra51, pt1_ra51, pt2_ra51, hP1, hK1, hD1⟩ := hB
                  rw [ht] at hP1
                  obtain ⟨hP2, hD2⟩ := va_join (wr := (wd_20b67a68 h1 g0 f20 h3 g2 fn46 h4 g3 fn45)) (w1 := (wd_5013416a h0 v0 r0 v1 v2 v3 v4 r1 r2 r3 r4 r5 r6 r7 v5 v6 r8 r9 r10 r11 v7 h1 r12 v8 v9 h2 r13 v10 v11 r14 v12 v13 r15 v14 w15 r16 x22 x23 h3 h4 r17 r18 r19 r20 v18 r21 r22 r23 v19 h2 g1 f21)) hP hD [0, 2] [1, 3, 4] rfl rfl (by decide) (by decide) hk1 hFc hP1 hD1
                  clear hP hD hPc hDc hKc hFc hP1 hK1 hD1 hk1 hz1
                  generalize H1 = H at hP2 hS ⊢
                  have hP := hP2.sub (ws' := (wd_90cd99f9 h0 v0 r0 v1 v2 v3 v4 r1 r2 r3 r4 r5 r6 r7 v5 v6 r8 r9 r10 r11 v7 h1 r12 v8 v9 h2 r13 v10 v11 r14 v12 v13 r15 v14 w15 r16 x22 x23 h3 h4 r17 r18 r19 r20 v18 r21 r22 r23 v19 h1 g0 f20 h2 g1 f21 h3 g2 fn46 h4 g3 fn45)) [3, 0, 4, 1, 2] rfl
                  have hD := hD2.sub (ws' := (wd_90cd99f9 h0 v0 r0 v1 v2 v3 v4 r1 r2 r3 r4 r5 r6 r7 v5 v6 r8 r9 r10 r11 v7 h1 r12 v8 v9 h2 r13 v10 v11 r14 v12 v13 r15 v14 w15 r16 x22 x23 h3 h4 r17 r18 r19 r20 v18 r21 r22 r23 v19 h1 g0 f20 h2 g1 f21 h3 g2 fn46 h4 g3 fn45)) [3, 0, 4, 1, 2] (by decide) rfl
                  clear hP2 hD2
                  have hJ53 : ∀ (x52 : Int32) (H : Heap) (locs : List Loc) (ls : Array Slot), 0 ≤ x52.toInt → x52.toInt ≤ 1 → va_P (dC, dI) vwCl (wd_90cd99f9 h0 v0 r0 v1 v2 v3 v4 r1 r2 r3 r4 r5 r6 r7 v5 v6 r8 r9 r10 r11 v7 h1 r12 v8 v9 h2 r13 v10 v11 r14 v12 v13 r15 v14 w15 r16 x22 x23 h3 h4 r17 r18 r19 r20 v18 r21 r22 r23 v19 h1 g0 f20 h2 g1 f21 h3 g2 fn46 h4 g3 fn45) H → va_D A (wd_90cd99f9 h0 v0 r0 v1 v2 v3 v4 r1 r2 r3 r4 r5 r6 r7 v5 v6 r8 r9 r10 r11 v7 h1 r12 v8 v9 h2 r13 v10 v11 r14 v12 v13 r15 v14 w15 r16 x22 x23 h3 h4 r17 r18 r19 r20 v18 r21 r22 r23 v19 h1 g0 f20 h2 g1 f21 h3 g2 fn46 h4 g3 fn45) → va_S A s.heap H locs → lv_has ls 7 [(6, .int x21), (5, .int x4), (0, .ref h0), (1, .int 4), (2, .int v24), (3, .int v25), (4, .int v26)] → W p l e ({ frames := 7, cells := 0, slots := 0, locals := 166 }) s m ([.ref h0, .int 4, .int v24, .int v25, .int v26] : List Value).toArray below meth c H locs 0 0 Q (F0 m 180 ls [.int x52, .int v25, .int t49, .int 5, .ref h0]) := by
                    intro x52 H locs ls qa_x52 qb_x52 hP hD hS hl
                    refine lv_iadd hx hb dX12_tryShelf_180 ?_
                    refine lv_topi (fun t54 et54 => ?_)
                    refine lv_iload hx hb dX12_tryShelf_181 (lv_at hl 6 rfl) ?_
                    have hPc := hP.sub (ws' := (wd_90cd99f9 h0 v0 r0 v1 v2 v3 v4 r1 r2 r3 r4 r5 r6 r7 v5 v6 r8 r9 r10 r11 v7 h1 r12 v8 v9 h2 r13 v10 v11 r14 v12 v13 r15 v14 w15 r16 x22 x23 h3 h4 r17 r18 r19 r20 v18 r21 r22 r23 v19 h1 g0 f20 h2 g1 f21 h3 g2 fn46 h4 g3 fn45)) [0, 1, 2, 3, 4] rfl
                    have hDc := hD.sub (ws' := (wd_90cd99f9 h0 v0 r0 v1 v2 v3 v4 r1 r2 r3 r4 r5 r6 r7 v5 v6 r8 r9 r10 r11 v7 h1 r12 v8 v9 h2 r13 v10 v11 r14 v12 v13 r15 v14 w15 r16 x22 x23 h3 h4 r17 r18 r19 r20 v18 r21 r22 r23 v19 h1 g0 f20 h2 g1 f21 h3 g2 fn46 h4 g3 fn45)) [0, 1, 2, 3, 4] (by decide) rfl
                    have hKc := hK.sub (tys' := [(g0, .int), (g1, .int), (g2, .int), (g3, .int)]) [0, 1, 2, 3] rfl
                    have hFc := va_free (wc := (wd_90cd99f9 h0 v0 r0 v1 v2 v3 v4 r1 r2 r3 r4 r5 r6 r7 v5 v6 r8 r9 r10 r11 v7 h1 r12 v8 v9 h2 r13 v10 v11 r14 v12 v13 r15 v14 w15 r16 x22 x23 h3 h4 r17 r18 r19 r20 v18 r21 r22 r23 v19 h1 g0 f20 h2 g1 f21 h3 g2 fn46 h4 g3 fn45)) hD hS hA [0, 1, 2, 3, 4] rfl
                    refine va_callv (va_runV (As := [.int 5, .int t49, .int t54, .int v26]) (rest := []) ⟨hx, hb, hml, hown, hts⟩ (k_X12_tryShelf_3 l dC dI h0 h1 h2 h3 h4 v0 r0 v1 v2 v3 v4 r1 r2 r3 r4 r5 r6 r7 v5 v6 r8 r9 r10 r11 v7 r12 v8 v9 r13 v10 v11 r14 v12 v13 r15 v14 w15 r16 x22 x23 r17 r18 r19 r20 v18 r21 r22 r23 v19 g0 f20 g1 f21 g2 fn46 g3 fn45 t49 t54 v26 ⟨i_v1a, i_v1b⟩ ⟨i_v5a, i_v5b⟩ ⟨i_v6a, i_v6b⟩ ⟨i_v7a, i_v7b⟩ ⟨i_v8a, i_v8b⟩ ⟨i_v9a, i_v9b⟩ ⟨i_v10a, i_v10b⟩ ⟨i_v14a, i_v14b⟩ ⟨i_v18a, i_v18b⟩ ⟨i_v19a, i_v19b⟩ ⟨i_v26a, i_v26b⟩ ia_f20 ia_f21 H.size) (cwV 4 hts g_X12_tryShelf_4_4 rfl rfl rfl (by decide +kernel) ⟨Nat.le_of_ble_eq_true rfl, Nat.le_of_ble_eq_true rfl⟩) (pv_PV12 hPc hKc hDc (q0 := 0) rfl) rfl rfl hl.1 rfl (lv_room (Nat.le_of_ble_eq_true rfl)) dX12_tryShelf_183 ⟨Nat.le_of_ble_eq_true rfl, Nat.le_of_ble_eq_true rfl⟩) hS (fun q _ h => hFc q h) hFc (fun u t H1 locs ht hvm hwra55 hB hz1 hk1 hS => ?_)
                    obtain ⟨x56, x57, fn58, fn59, hP1, hK1, hD1⟩ := hB
                    rw [ht] at hP1
                    obtain ⟨hP2, hD2⟩ := va_join (wr := []) (w1 := (wd_90cd99f9 h0 v0 r0 v1 v2 v3 v4 r1 r2 r3 r4 r5 r6 r7 v5 v6 r8 r9 r10 r11 v7 h1 r12 v8 v9 h2 r13 v10 v11 r14 v12 v13 r15 v14 w15 r16 x56 x57 h3 h4 r17 r18 r19 r20 v18 r21 r22 r23 v19 h1 g0 f20 h2 g1 f21 h3 g2 fn58 h4 g3 fn59)) hP hD [0, 1, 2, 3, 4] [] rfl rfl (by decide) (by decide) hk1 hFc hP1 hD1
                    clear hP hD hPc hDc hKc hFc hP1 hK1 hD1 hk1 hz1
                    generalize H1 = H at hP2 hS ⊢
                    have hP : va_P (dC, dI) vwCl (wd_90cd99f9 h0 v0 r0 v1 v2 v3 v4 r1 r2 r3 r4 r5 r6 r7 v5 v6 r8 r9 r10 r11 v7 h1 r12 v8 v9 h2 r13 v10 v11 r14 v12 v13 r15 v14 w15 r16 x56 x57 h3 h4 r17 r18 r19 r20 v18 r21 r22 r23 v19 h1 g0 f20 h2 g1 f21 h3 g2 fn58 h4 g3 fn59) H := hP2
                    have hD : va_D A (wd_90cd99f9 h0 v0 r0 v1 v2 v3 v4 r1 r2 r3 r4 r5 r6 r7 v5 v6 r8 r9 r10 r11 v7 h1 r12 v8 v9 h2 r13 v10 v11 r14 v12 v13 r15 v14 w15 r16 x56 x57 h3 h4 r17 r18 r19 r20 v18 r21 r22 r23 v19 h1 g0 f20 h2 g1 f21 h3 g2 fn58 h4 g3 fn59) := hD2
                    clear hP2 hD2
                    refine lv_aload_n hx hb dX12_tryShelf_186 rfl (lv_at hl 2 rfl) ?_
                    refine va_get (D := (dC, dI)) (ci := 12) (v := .ref h4) (C := RX12) (T := TX12) (N := 48) hx hb hts (fun _ h => List.mem_cons_of_mem _ (List.mem_append_right _ h)) hown hK hP 0 rfl rfl 38 (by decide) (hts (.fieldLink RX12 77 "LeftArgumentsModel" "room" "[I") (List.mem_cons_of_mem _ (List.mem_append_left _ (List.mem_of_getElem? (i := 31) rfl)))) (fun _ h9 => h9) rfl dX12_tryShelf_187 ?_
                    refine lv_iload hx hb dX12_tryShelf_190 (lv_at hl 0 rfl) ?_
                    refine lv_dup2_11 hx hb dX12_tryShelf_192 rfl rfl ?_
                    refine va_iald hx hb hK hP 4 3 rfl rfl (vp_in_iff.mpr ⟨by omega, by omega⟩) dX12_tryShelf_193 ?_
                    refine lv_topi (fun t60 et60 => ?_)
                    refine lv_aload_n hx hb dX12_tryShelf_194 rfl (lv_at hl 2 rfl) ?_
                    refine lv_iload_n hx hb dX12_tryShelf_195 rfl (lv_at hl 3 rfl) ?_
                    refine lv_iconst (v := 0) hx hb dX12_tryShelf_196 (by decide) ?_
                    have hPc := hP.sub (ws' := (wd_5013416a h0 v0 r0 v1 v2 v3 v4 r1 r2 r3 r4 r5 r6 r7 v5 v6 r8 r9 r10 r11 v7 h1 r12 v8 v9 h2 r13 v10 v11 r14 v12 v13 r15 v14 w15 r16 x56 x57 h3 h4 r17 r18 r19 r20 v18 r21 r22 r23 v19 h2 g1 f21)) [0, 2] rfl
                    have hDc := hD.sub (ws' := (wd_5013416a h0 v0 r0 v1 v2 v3 v4 r1 r2 r3 r4 r5 r6 r7 v5 v6 r8 r9 r10 r11 v7 h1 r12 v8 v9 h2 r13 v10 v11 r14 v12 v13 r15 v14 w15 r16 x56 x57 h3 h4 r17 r18 r19 r20 v18 r21 r22 r23 v19 h2 g1 f21)) [0, 2] (by decide) rfl
                    have hKc := hK.sub (tys' := [(g1, .int)]) [1] rfl
                    have hFc := va_free (wc := (wd_5013416a h0 v0 r0 v1 v2 v3 v4 r1 r2 r3 r4 r5 r6 r7 v5 v6 r8 r9 r10 r11 v7 h1 r12 v8 v9 h2 r13 v10 v11 r14 v12 v13 r15 v14 w15 r16 x56 x57 h3 h4 r17 r18 r19 r20 v18 r21 r22 r23 v19 h2 g1 f21)) hD hS hA [0, 2] rfl
                    refine va_calli (va_runV (As := [.int 4, .int 0]) (rest := [.int t60, .int x21, .ref h4]) ⟨hx, hb, hml, hown, hts⟩ (k_X12_of_3 l dC dI h0 h2 v0 r0 v1 v2 v3 v4 r1 r2 r3 r4 r5 r6 r7 v5 v6 r8 r9 r10 r11 v7 h1 r12 v8 v9 r13 v10 v11 r14 v12 v13 r15 v14 w15 r16 x56 x57 h3 h4 r17 r18 r19 r20 v18 r21 r22 r23 v19 g1 f21 4 ⟨i_v1a, i_v1b⟩ ⟨i_v5a, i_v5b⟩ ⟨i_v6a, i_v6b⟩ ⟨i_v7a, i_v7b⟩ ⟨i_v8a, i_v8b⟩ ⟨i_v9a, i_v9b⟩ ⟨i_v10a, i_v10b⟩ ⟨i_v14a, i_v14b⟩ ⟨i_v18a, i_v18b⟩ ⟨i_v19a, i_v19b⟩ ⟨by decide, by decide⟩ ia_f21.1 H.size) (cwV 2 hts g_X12_tryShelf_4_2 rfl rfl rfl (by decide +kernel) ⟨Nat.le_of_ble_eq_true rfl, Nat.le_of_ble_eq_true rfl⟩) (pv_PV12 hPc hKc hDc (q0 := 0) rfl) rfl rfl hl.1 rfl (lv_room (Nat.le_of_ble_eq_true rfl)) dX12_tryShelf_197 ⟨Nat.le_of_ble_eq_true rfl, Nat.le_of_ble_eq_true rfl⟩) hS (fun q _ h => hFc q h) hFc (fun ra61 u t H1 locs ht hvm hwra61 hB hz1 hk1 hS => ?_)
                    try rw [hwra61] at hB
                    have hkra61_0 : ((4 : Int32)).toInt = 4 := by decide
                    obtain ⟨pt0_ra61, pt1_ra61, pt2_ra61, hP1, hK1, hD1⟩ := hB
                    rw [ht] at hP1
                    obtain ⟨hP2, hD2⟩ := va_join (wr := (wd_20b67a68 h1 g0 f20 h3 g2 fn58 h4 g3 fn59)) (w1 := (wd_5013416a h0 v0 r0 v1 v2 v3 v4 r1 r2 r3 r4 r5 r6 r7 v5 v6 r8 r9 r10 r11 v7 h1 r12 v8 v9 h2 r13 v10 v11 r14 v12 v13 r15 v14 w15 r16 x56 x57 h3 h4 r17 r18 r19 r20 v18 r21 r22 r23 v19 h2 g1 f21)) hP hD [0, 2] [1, 3, 4] rfl rfl (by decide) (by decide) hk1 hFc hP1 hD1
                    clear hP hD hPc hDc hKc hFc hP1 hK1 hD1 hk1 hz1
                    generalize H1 = H at hP2 hS ⊢
                    have hP := hP2.sub (ws' := (wd_90cd99f9 h0 v0 r0 v1 v2 v3 v4 r1 r2 r3 r4 r5 r6 r7 v5 v6 r8 r9 r10 r11 v7 h1 r12 v8 v9 h2 r13 v10 v11 r14 v12 v13 r15 v14 w15 r16 x56 x57 h3 h4 r17 r18 r19 r20 v18 r21 r22 r23 v19 h1 g0 f20 h2 g1 f21 h3 g2 fn58 h4 g3 fn59)) [3, 0, 4, 1, 2] rfl
                    have hD := hD2.sub (ws' := (wd_90cd99f9 h0 v0 r0 v1 v2 v3 v4 r1 r2 r3 r4 r5 r6 r7 v5 v6 r8 r9 r10 r11 v7 h1 r12 v8 v9 h2 r13 v10 v11 r14 v12 v13 r15 v14 w15 r16 x56 x57 h3 h4 r17 r18 r19 r20 v18 r21 r22 r23 v19 h1 g0 f20 h2 g1 f21 h3 g2 fn58 h4 g3 fn59)) [3, 0, 4, 1, 2] (by decide) rfl
                    clear hP2 hD2
                    refine lv_isub hx hb dX12_tryShelf_200 ?_
                    refine lv_topi (fun t62 et62 => ?_)
                    refine va_iast hx hb hK hP hD hS 4 3 rfl rfl (vp_in_iff.mpr ⟨by omega, by omega⟩) dX12_tryShelf_201 (fun H locs hP hD hS => ?_)
                    obtain ⟨fn63, efn63⟩ : ∃ g : Nat → Int32, g = upd fn59 (Int32.toNatClampNeg x21) t62 := ⟨_, rfl⟩
                    rw [← efn63] at hP hD
                    have hP : va_P (dC, dI) vwCl (wd_90cd99f9 h0 v0 r0 v1 v2 v3 v4 r1 r2 r3 r4 r5 r6 r7 v5 v6 r8 r9 r10 r11 v7 h1 r12 v8 v9 h2 r13 v10 v11 r14 v12 v13 r15 v14 w15 r16 x56 x57 h3 h4 r17 r18 r19 r20 v18 r21 r22 r23 v19 h1 g0 f20 h2 g1 f21 h3 g2 fn58 h4 g3 fn63) H := hP
                    have hD : va_D A (wd_90cd99f9 h0 v0 r0 v1 v2 v3 v4 r1 r2 r3 r4 r5 r6 r7 v5 v6 r8 r9 r10 r11 v7 h1 r12 v8 v9 h2 r13 v10 v11 r14 v12 v13 r15 v14 w15 r16 x56 x57 h3 h4 r17 r18 r19 r20 v18 r21 r22 r23 v19 h1 g0 f20 h2 g1 f21 h3 g2 fn58 h4 g3 fn63) := hD
                    exact hJ37 x56 x57 fn58 fn63 H locs ls hP hD hS (lv_sub hl [0, 1, 2, 3, 4, 5, 6] rfl)
                  refine lv_icmp_ne (tgt := 179) hx hb dX12_tryShelf_172 (by decide) (fun c64 => ?_) (fun c64 => ?_)
                  · skip
                    have fc64 : ¬ (t50.toInt = ra51.toInt) := fun h9 => c64 (Int32.toInt_inj.mp h9)
                    have r1c64 := Int32.toInt_lt t50
                    have r2c64 := Int32.toInt_lt ra51
                    have r3c64 := Int32.le_toInt t50
                    have r4c64 := Int32.le_toInt ra51
                    refine lv_iconst (v := 0) hx hb dX12_tryShelf_179 (by decide) ?_
                    exact hJ53 0 H locs ls (by decide) (by decide) hP hD hS (lv_sub hl [0, 1, 2, 3, 4, 5, 6] rfl)
                  · skip
                    have fc64 : t50.toInt = ra51.toInt := congrArg Int32.toInt c64
                    have r1c64 := Int32.toInt_lt t50
                    have r2c64 := Int32.toInt_lt ra51
                    have r3c64 := Int32.le_toInt t50
                    have r4c64 := Int32.le_toInt ra51
                    refine lv_iconst (v := 1) hx hb dX12_tryShelf_175 (by decide) ?_
                    refine lv_goto (tgt := 180) hx hb dX12_tryShelf_176 (by decide) ?_
                    exact hJ53 1 H locs ls (by decide) (by decide) hP hD hS (lv_sub hl [0, 1, 2, 3, 4, 5, 6] rfl)
              · skip
                have fc39 : ¬ (v26.toInt = 0) := fun h9 => c39 (Int32.toInt_inj.mp h9)
                refine lv_aload_n hx hb dX12_tryShelf_87 rfl (lv_at hl 2 rfl) ?_
                refine va_get (D := (dC, dI)) (ci := 12) (v := .ref h4) (C := RX12) (T := TX12) (N := 48) hx hb hts (fun _ h => List.mem_cons_of_mem _ (List.mem_append_right _ h)) hown hK hP 0 rfl rfl 38 (by decide) (hts (.fieldLink RX12 77 "LeftArgumentsModel" "room" "[I") (List.mem_cons_of_mem _ (List.mem_append_left _ (List.mem_of_getElem? (i := 31) rfl)))) (fun _ h9 => h9) rfl dX12_tryShelf_88 ?_
                refine lv_iload hx hb dX12_tryShelf_91 (lv_at hl 0 rfl) ?_
                refine va_iald hx hb hK hP 4 3 rfl rfl (vp_in_iff.mpr ⟨by omega, by omega⟩) dX12_tryShelf_93 ?_
                refine lv_topi (fun t65 et65 => ?_)
                refine lv_aload_n hx hb dX12_tryShelf_94 rfl (lv_at hl 2 rfl) ?_
                refine lv_iload_n hx hb dX12_tryShelf_95 rfl (lv_at hl 3 rfl) ?_
                refine lv_iconst (v := 0) hx hb dX12_tryShelf_96 (by decide) ?_
                have hPc := hP.sub (ws' := (wd_5013416a h0 v0 r0 v1 v2 v3 v4 r1 r2 r3 r4 r5 r6 r7 v5 v6 r8 r9 r10 r11 v7 h1 r12 v8 v9 h2 r13 v10 v11 r14 v12 v13 r15 v14 w15 r16 x22 x23 h3 h4 r17 r18 r19 r20 v18 r21 r22 r23 v19 h2 g1 f21)) [0, 2] rfl
                have hDc := hD.sub (ws' := (wd_5013416a h0 v0 r0 v1 v2 v3 v4 r1 r2 r3 r4 r5 r6 r7 v5 v6 r8 r9 r10 r11 v7 h1 r12 v8 v9 h2 r13 v10 v11 r14 v12 v13 r15 v14 w15 r16 x22 x23 h3 h4 r17 r18 r19 r20 v18 r21 r22 r23 v19 h2 g1 f21)) [0, 2] (by decide) rfl
                have hKc := hK.sub (tys' := [(g1, .int)]) [1] rfl
                have hFc := va_free (wc := (wd_5013416a h0 v0 r0 v1 v2 v3 v4 r1 r2 r3 r4 r5 r6 r7 v5 v6 r8 r9 r10 r11 v7 h1 r12 v8 v9 h2 r13 v10 v11 r14 v12 v13 r15 v14 w15 r16 x22 x23 h3 h4 r17 r18 r19 r20 v18 r21 r22 r23 v19 h2 g1 f21)) hD hS hA [0, 2] rfl
                refine va_calli (va_runV (As := [.int 4, .int 0]) (rest := [.int t65]) ⟨hx, hb, hml, hown, hts⟩ (k_X12_of_3 l dC dI h0 h2 v0 r0 v1 v2 v3 v4 r1 r2 r3 r4 r5 r6 r7 v5 v6 r8 r9 r10 r11 v7 h1 r12 v8 v9 r13 v10 v11 r14 v12 v13 r15 v14 w15 r16 x22 x23 h3 h4 r17 r18 r19 r20 v18 r21 r22 r23 v19 g1 f21 4 ⟨i_v1a, i_v1b⟩ ⟨i_v5a, i_v5b⟩ ⟨i_v6a, i_v6b⟩ ⟨i_v7a, i_v7b⟩ ⟨i_v8a, i_v8b⟩ ⟨i_v9a, i_v9b⟩ ⟨i_v10a, i_v10b⟩ ⟨i_v14a, i_v14b⟩ ⟨i_v18a, i_v18b⟩ ⟨i_v19a, i_v19b⟩ ⟨by decide, by decide⟩ ia_f21.1 H.size) (cwV 2 hts g_X12_tryShelf_4_2 rfl rfl rfl (by decide +kernel) ⟨Nat.le_of_ble_eq_true rfl, Nat.le_of_ble_eq_true rfl⟩) (pv_PV12 hPc hKc hDc (q0 := 0) rfl) rfl rfl hl.1 rfl (lv_room (Nat.le_of_ble_eq_true rfl)) dX12_tryShelf_97 ⟨Nat.le_of_ble_eq_true rfl, Nat.le_of_ble_eq_true rfl⟩) hS (fun q _ h => hFc q h) hFc (fun ra66 u t H1 locs ht hvm hwra66 hB hz1 hk1 hS => ?_)
                try rw [hwra66] at hB
                have hkra66_0 : ((4 : Int32)).toInt = 4 := by decide
                obtain ⟨pt0_ra66, pt1_ra66, pt2_ra66, hP1, hK1, hD1⟩ := hB
                rw [ht] at hP1
                obtain ⟨hP2, hD2⟩ := va_join (wr := (wd_20b67a68 h1 g0 f20 h3 g2 fn24 h4 g3 fn25)) (w1 := (wd_5013416a h0 v0 r0 v1 v2 v3 v4 r1 r2 r3 r4 r5 r6 r7 v5 v6 r8 r9 r10 r11 v7 h1 r12 v8 v9 h2 r13 v10 v11 r14 v12 v13 r15 v14 w15 r16 x22 x23 h3 h4 r17 r18 r19 r20 v18 r21 r22 r23 v19 h2 g1 f21)) hP hD [0, 2] [1, 3, 4] rfl rfl (by decide) (by decide) hk1 hFc hP1 hD1
                clear hP hD hPc hDc hKc hFc hP1 hK1 hD1 hk1 hz1
                generalize H1 = H at hP2 hS ⊢
                have hP := hP2.sub (ws' := (wd_90cd99f9 h0 v0 r0 v1 v2 v3 v4 r1 r2 r3 r4 r5 r6 r7 v5 v6 r8 r9 r10 r11 v7 h1 r12 v8 v9 h2 r13 v10 v11 r14 v12 v13 r15 v14 w15 r16 x22 x23 h3 h4 r17 r18 r19 r20 v18 r21 r22 r23 v19 h1 g0 f20 h2 g1 f21 h3 g2 fn24 h4 g3 fn25)) [3, 0, 4, 1, 2] rfl
                have hD := hD2.sub (ws' := (wd_90cd99f9 h0 v0 r0 v1 v2 v3 v4 r1 r2 r3 r4 r5 r6 r7 v5 v6 r8 r9 r10 r11 v7 h1 r12 v8 v9 h2 r13 v10 v11 r14 v12 v13 r15 v14 w15 r16 x22 x23 h3 h4 r17 r18 r19 r20 v18 r21 r22 r23 v19 h1 g0 f20 h2 g1 f21 h3 g2 fn24 h4 g3 fn25)) [3, 0, 4, 1, 2] (by decide) rfl
                clear hP2 hD2
                refine lv_iadd hx hb dX12_tryShelf_100 ?_
                refine lv_topi (fun t67 et67 => ?_)
                refine lv_aload_n hx hb dX12_tryShelf_101 rfl (lv_at hl 2 rfl) ?_
                refine va_get (D := (dC, dI)) (ci := 12) (v := .ref h1) (C := RX12) (T := TX12) (N := 48) hx hb hts (fun _ h => List.mem_cons_of_mem _ (List.mem_append_right _ h)) hown hK hP 0 rfl rfl 20 (by decide) (hts (.fieldLink RX12 46 "LeftArgumentsModel" "rule" "[I") (List.mem_cons_of_mem _ (List.mem_append_left _ (List.mem_of_getElem? (i := 37) rfl)))) (fun _ h9 => h9) rfl dX12_tryShelf_102 ?_
                refine lv_iconst (v := 0) hx hb dX12_tryShelf_105 (by decide) ?_
                refine va_iald hx hb hK hP 1 0 rfl rfl (pv_c (x := 0) (n := 4) (by decide)) dX12_tryShelf_106 ?_
                refine lv_topi (fun t68 et68 => ?_)
                have gat68 : 0 ≤ t68.toInt := by rw [et68]; exact ia_f20.2
                refine lv_icmp_gt (tgt := 202) hx hb dX12_tryShelf_107 (by decide) (fun c69 => ?_) (fun c69 => ?_)
                · skip
                  have fc69 : t68.toInt < t67.toInt := Int32.lt_iff_toInt_lt.mp c69
                  have r1c69 := Int32.toInt_lt t67
                  have r2c69 := Int32.toInt_lt t68
                  have r3c69 := Int32.le_toInt t67
                  have r4c69 := Int32.le_toInt t68
                  exact hJ37 x22 x23 fn24 fn25 H locs ls hP hD hS (lv_sub hl [0, 1, 2, 3, 4, 5, 6] rfl)
                · skip
                  have fc69 : ¬ (t68.toInt < t67.toInt) := fun h9 => c69 (Int32.lt_iff_toInt_lt.mpr h9)
                  have r1c69 := Int32.toInt_lt t67
                  have r2c69 := Int32.toInt_lt t68
                  have r3c69 := Int32.le_toInt t67
                  have r4c69 := Int32.le_toInt t68
                  refine lv_goto (tgt := 123) hx hb dX12_tryShelf_110 (by decide) ?_
                  refine lv_aload_n hx hb dX12_tryShelf_123 rfl (lv_at hl 2 rfl) ?_
                  refine va_get (D := (dC, dI)) (ci := 12) (v := .ref h4) (C := RX12) (T := TX12) (N := 48) hx hb hts (fun _ h => List.mem_cons_of_mem _ (List.mem_append_right _ h)) hown hK hP 0 rfl rfl 38 (by decide) (hts (.fieldLink RX12 77 "LeftArgumentsModel" "room" "[I") (List.mem_cons_of_mem _ (List.mem_append_left _ (List.mem_of_getElem? (i := 31) rfl)))) (fun _ h9 => h9) rfl dX12_tryShelf_124 ?_
                  refine lv_iload hx hb dX12_tryShelf_127 (lv_at hl 0 rfl) ?_
                  refine lv_dup2_11 hx hb dX12_tryShelf_129 rfl rfl ?_
                  refine va_iald hx hb hK hP 4 3 rfl rfl (vp_in_iff.mpr ⟨by omega, by omega⟩) dX12_tryShelf_130 ?_
                  refine lv_topi (fun t70 et70 => ?_)
                  have gmt70 : t70.toInt = t65.toInt := by rw [et70, et65]
                  refine lv_aload_n hx hb dX12_tryShelf_131 rfl (lv_at hl 2 rfl) ?_
                  refine lv_iload_n hx hb dX12_tryShelf_132 rfl (lv_at hl 3 rfl) ?_
                  refine lv_iconst (v := 0) hx hb dX12_tryShelf_133 (by decide) ?_
                  have hPc := hP.sub (ws' := (wd_5013416a h0 v0 r0 v1 v2 v3 v4 r1 r2 r3 r4 r5 r6 r7 v5 v6 r8 r9 r10 r11 v7 h1 r12 v8 v9 h2 r13 v10 v11 r14 v12 v13 r15 v14 w15 r16 x22 x23 h3 h4 r17 r18 r19 r20 v18 r21 r22 r23 v19 h2 g1 f21)) [0, 2] rfl
                  have hDc := hD.sub (ws' := (wd_5013416a h0 v0 r0 v1 v2 v3 v4 r1 r2 r3 r4 r5 r6 r7 v5 v6 r8 r9 r10 r11 v7 h1 r12 v8 v9 h2 r13 v10 v11 r14 v12 v13 r15 v14 w15 r16 x22 x23 h3 h4 r17 r18 r19 r20 v18 r21 r22 r23 v19 h2 g1 f21)) [0, 2] (by decide) rfl
                  have hKc := hK.sub (tys' := [(g1, .int)]) [1] rfl
                  have hFc := va_free (wc := (wd_5013416a h0 v0 r0 v1 v2 v3 v4 r1 r2 r3 r4 r5 r6 r7 v5 v6 r8 r9 r10 r11 v7 h1 r12 v8 v9 h2 r13 v10 v11 r14 v12 v13 r15 v14 w15 r16 x22 x23 h3 h4 r17 r18 r19 r20 v18 r21 r22 r23 v19 h2 g1 f21)) hD hS hA [0, 2] rfl
                  refine va_calli (va_runV (As := [.int 4, .int 0]) (rest := [.int t70, .int x21, .ref h4]) ⟨hx, hb, hml, hown, hts⟩ (k_X12_of_3 l dC dI h0 h2 v0 r0 v1 v2 v3 v4 r1 r2 r3 r4 r5 r6 r7 v5 v6 r8 r9 r10 r11 v7 h1 r12 v8 v9 r13 v10 v11 r14 v12 v13 r15 v14 w15 r16 x22 x23 h3 h4 r17 r18 r19 r20 v18 r21 r22 r23 v19 g1 f21 4 ⟨i_v1a, i_v1b⟩ ⟨i_v5a, i_v5b⟩ ⟨i_v6a, i_v6b⟩ ⟨i_v7a, i_v7b⟩ ⟨i_v8a, i_v8b⟩ ⟨i_v9a, i_v9b⟩ ⟨i_v10a, i_v10b⟩ ⟨i_v14a, i_v14b⟩ ⟨i_v18a, i_v18b⟩ ⟨i_v19a, i_v19b⟩ ⟨by decide, by decide⟩ ia_f21.1 H.size) (cwV 2 hts g_X12_tryShelf_4_2 rfl rfl rfl (by decide +kernel) ⟨Nat.le_of_ble_eq_true rfl, Nat.le_of_ble_eq_true rfl⟩) (pv_PV12 hPc hKc hDc (q0 := 0) rfl) rfl rfl hl.1 rfl (lv_room (Nat.le_of_ble_eq_true rfl)) dX12_tryShelf_134 ⟨Nat.le_of_ble_eq_true rfl, Nat.le_of_ble_eq_true rfl⟩) hS (fun q _ h => hFc q h) hFc (fun ra71 u t H1 locs ht hvm hwra71 hB hz1 hk1 hS => ?_)
                  try rw [hwra71] at hB
                  have hkra71_0 : ((4 : Int32)).toInt = 4 := by decide
                  obtain ⟨pt0_ra71, pt1_ra71, pt2_ra71, hP1, hK1, hD1⟩ := hB
                  rw [ht] at hP1
                  obtain ⟨hP2, hD2⟩ := va_join (wr := (wd_20b67a68 h1 g0 f20 h3 g2 fn24 h4 g3 fn25)) (w1 := (wd_5013416a h0 v0 r0 v1 v2 v3 v4 r1 r2 r3 r4 r5 r6 r7 v5 v6 r8 r9 r10 r11 v7 h1 r12 v8 v9 h2 r13 v10 v11 r14 v12 v13 r15 v14 w15 r16 x22 x23 h3 h4 r17 r18 r19 r20 v18 r21 r22 r23 v19 h2 g1 f21)) hP hD [0, 2] [1, 3, 4] rfl rfl (by decide) (by decide) hk1 hFc hP1 hD1
                  clear hP hD hPc hDc hKc hFc hP1 hK1 hD1 hk1 hz1
                  generalize H1 = H at hP2 hS ⊢
                  have hP := hP2.sub (ws' := (wd_90cd99f9 h0 v0 r0 v1 v2 v3 v4 r1 r2 r3 r4 r5 r6 r7 v5 v6 r8 r9 r10 r11 v7 h1 r12 v8 v9 h2 r13 v10 v11 r14 v12 v13 r15 v14 w15 r16 x22 x23 h3 h4 r17 r18 r19 r20 v18 r21 r22 r23 v19 h1 g0 f20 h2 g1 f21 h3 g2 fn24 h4 g3 fn25)) [3, 0, 4, 1, 2] rfl
                  have hD := hD2.sub (ws' := (wd_90cd99f9 h0 v0 r0 v1 v2 v3 v4 r1 r2 r3 r4 r5 r6 r7 v5 v6 r8 r9 r10 r11 v7 h1 r12 v8 v9 h2 r13 v10 v11 r14 v12 v13 r15 v14 w15 r16 x22 x23 h3 h4 r17 r18 r19 r20 v18 r21 r22 r23 v19 h1 g0 f20 h2 g1 f21 h3 g2 fn24 h4 g3 fn25)) [3, 0, 4, 1, 2] (by decide) rfl
                  clear hP2 hD2
                  refine lv_iadd hx hb dX12_tryShelf_137 ?_
                  refine lv_topi (fun t72 et72 => ?_)
                  refine va_iast hx hb hK hP hD hS 4 3 rfl rfl (vp_in_iff.mpr ⟨by omega, by omega⟩) dX12_tryShelf_138 (fun H locs hP hD hS => ?_)
                  obtain ⟨fn73, efn73⟩ : ∃ g : Nat → Int32, g = upd fn25 (Int32.toNatClampNeg x21) t72 := ⟨_, rfl⟩
                  rw [← efn73] at hP hD
                  have hP : va_P (dC, dI) vwCl (wd_90cd99f9 h0 v0 r0 v1 v2 v3 v4 r1 r2 r3 r4 r5 r6 r7 v5 v6 r8 r9 r10 r11 v7 h1 r12 v8 v9 h2 r13 v10 v11 r14 v12 v13 r15 v14 w15 r16 x22 x23 h3 h4 r17 r18 r19 r20 v18 r21 r22 r23 v19 h1 g0 f20 h2 g1 f21 h3 g2 fn24 h4 g3 fn73) H := hP
                  have hD : va_D A (wd_90cd99f9 h0 v0 r0 v1 v2 v3 v4 r1 r2 r3 r4 r5 r6 r7 v5 v6 r8 r9 r10 r11 v7 h1 r12 v8 v9 h2 r13 v10 v11 r14 v12 v13 r15 v14 w15 r16 x22 x23 h3 h4 r17 r18 r19 r20 v18 r21 r22 r23 v19 h1 g0 f20 h2 g1 f21 h3 g2 fn24 h4 g3 fn73) := hD
                  refine lv_aload_n hx hb dX12_tryShelf_139 rfl (lv_at hl 2 rfl) ?_
                  refine va_get (D := (dC, dI)) (ci := 12) (v := .ref h3) (C := RX12) (T := TX12) (N := 48) hx hb hts (fun _ h => List.mem_cons_of_mem _ (List.mem_append_right _ h)) hown hK hP 0 rfl rfl 37 (by decide) (hts (.fieldLink RX12 74 "LeftArgumentsModel" "onShelf" "[I") (List.mem_cons_of_mem _ (List.mem_append_left _ (List.mem_of_getElem? (i := 15) rfl)))) (fun _ h9 => h9) rfl dX12_tryShelf_140 ?_
                  refine lv_iload_n hx hb dX12_tryShelf_143 rfl (lv_at hl 3 rfl) ?_
                  refine lv_iload hx hb dX12_tryShelf_144 (lv_at hl 0 rfl) ?_
                  refine va_iast hx hb hK hP hD hS 3 2 rfl rfl (pv_c (x := 4) (n := 8) (by decide)) dX12_tryShelf_146 (fun H locs hP hD hS => ?_)
                  obtain ⟨fn74, efn74⟩ : ∃ g : Nat → Int32, g = upd fn24 (Int32.toNatClampNeg 4) x21 := ⟨_, rfl⟩
                  rw [← efn74] at hP hD
                  have hP : va_P (dC, dI) vwCl (wd_90cd99f9 h0 v0 r0 v1 v2 v3 v4 r1 r2 r3 r4 r5 r6 r7 v5 v6 r8 r9 r10 r11 v7 h1 r12 v8 v9 h2 r13 v10 v11 r14 v12 v13 r15 v14 w15 r16 x22 x23 h3 h4 r17 r18 r19 r20 v18 r21 r22 r23 v19 h1 g0 f20 h2 g1 f21 h3 g2 fn74 h4 g3 fn73) H := hP
                  have hD : va_D A (wd_90cd99f9 h0 v0 r0 v1 v2 v3 v4 r1 r2 r3 r4 r5 r6 r7 v5 v6 r8 r9 r10 r11 v7 h1 r12 v8 v9 h2 r13 v10 v11 r14 v12 v13 r15 v14 w15 r16 x22 x23 h3 h4 r17 r18 r19 r20 v18 r21 r22 r23 v19 h1 g0 f20 h2 g1 f21 h3 g2 fn74 h4 g3 fn73) := hD
                  refine lv_aload_n hx hb dX12_tryShelf_147 rfl (lv_at hl 2 rfl) ?_
                  refine lv_iload_n hx hb dX12_tryShelf_148 rfl (lv_at hl 3 rfl) ?_
                  refine lv_iconst (v := 1) hx hb dX12_tryShelf_149 (by decide) ?_
                  refine lv_iadd hx hb dX12_tryShelf_150 ?_
                  refine lv_topi (fun tv75 etv75 => ?_)
                  obtain rfl : tv75 = (5 : Int32) := etv75.trans (by first | rfl | decide)
                  refine lv_bipush (v := 10) hx hb dX12_tryShelf_151 (by decide) ?_
                  refine lv_iload_n hx hb dX12_tryShelf_153 rfl (lv_at hl 4 rfl) ?_
                  refine lv_imul hx hb dX12_tryShelf_154 ?_
                  refine lv_topi (fun t76 et76 => ?_)
                  refine lv_iload hx hb dX12_tryShelf_155 (lv_at hl 0 rfl) ?_
                  refine lv_iadd hx hb dX12_tryShelf_157 ?_
                  refine lv_topi (fun t77 et77 => ?_)
                  refine lv_iload_n hx hb dX12_tryShelf_158 rfl (lv_at hl 5 rfl) ?_
                  refine lv_aload_n hx hb dX12_tryShelf_159 rfl (lv_at hl 2 rfl) ?_
                  refine va_get (D := (dC, dI)) (ci := 12) (v := .ref h4) (C := RX12) (T := TX12) (N := 48) hx hb hts (fun _ h => List.mem_cons_of_mem _ (List.mem_append_right _ h)) hown hK hP 0 rfl rfl 38 (by decide) (hts (.fieldLink RX12 77 "LeftArgumentsModel" "room" "[I") (List.mem_cons_of_mem _ (List.mem_append_left _ (List.mem_of_getElem? (i := 31) rfl)))) (fun _ h9 => h9) rfl dX12_tryShelf_160 ?_
                  refine lv_iload hx hb dX12_tryShelf_163 (lv_at hl 0 rfl) ?_
                  refine va_iald hx hb hK hP 4 3 rfl rfl (vp_in_iff.mpr ⟨by omega, by omega⟩) dX12_tryShelf_165 ?_
                  refine lv_topi (fun t78 et78 => ?_)
                  refine lv_aload_n hx hb dX12_tryShelf_166 rfl (lv_at hl 2 rfl) ?_
                  refine lv_iload_n hx hb dX12_tryShelf_167 rfl (lv_at hl 3 rfl) ?_
                  refine lv_iconst (v := 0) hx hb dX12_tryShelf_168 (by decide) ?_
                  have hPc := hP.sub (ws' := (wd_5013416a h0 v0 r0 v1 v2 v3 v4 r1 r2 r3 r4 r5 r6 r7 v5 v6 r8 r9 r10 r11 v7 h1 r12 v8 v9 h2 r13 v10 v11 r14 v12 v13 r15 v14 w15 r16 x22 x23 h3 h4 r17 r18 r19 r20 v18 r21 r22 r23 v19 h2 g1 f21)) [0, 2] rfl
                  have hDc := hD.sub (ws' := (wd_5013416a h0 v0 r0 v1 v2 v3 v4 r1 r2 r3 r4 r5 r6 r7 v5 v6 r8 r9 r10 r11 v7 h1 r12 v8 v9 h2 r13 v10 v11 r14 v12 v13 r15 v14 w15 r16 x22 x23 h3 h4 r17 r18 r19 r20 v18 r21 r22 r23 v19 h2 g1 f21)) [0, 2] (by decide) rfl
                  have hKc := hK.sub (tys' := [(g1, .int)]) [1] rfl
                  have hFc := va_free (wc := (wd_5013416a h0 v0 r0 v1 v2 v3 v4 r1 r2 r3 r4 r5 r6 r7 v5 v6 r8 r9 r10 r11 v7 h1 r12 v8 v9 h2 r13 v10 v11 r14 v12 v13 r15 v14 w15 r16 x22 x23 h3 h4 r17 r18 r19 r20 v18 r21 r22 r23 v19 h2 g1 f21)) hD hS hA [0, 2] rfl
                  refine va_calli (va_runV (As := [.int 4, .int 0]) (rest := [.int t78, .int v25, .int t77, .int 5, .ref h0]) ⟨hx, hb, hml, hown, hts⟩ (k_X12_of_3 l dC dI h0 h2 v0 r0 v1 v2 v3 v4 r1 r2 r3 r4 r5 r6 r7 v5 v6 r8 r9 r10 r11 v7 h1 r12 v8 v9 r13 v10 v11 r14 v12 v13 r15 v14 w15 r16 x22 x23 h3 h4 r17 r18 r19 r20 v18 r21 r22 r23 v19 g1 f21 4 ⟨i_v1a, i_v1b⟩ ⟨i_v5a, i_v5b⟩ ⟨i_v6a, i_v6b⟩ ⟨i_v7a, i_v7b⟩ ⟨i_v8a, i_v8b⟩ ⟨i_v9a, i_v9b⟩ ⟨i_v10a, i_v10b⟩ ⟨i_v14a, i_v14b⟩ ⟨i_v18a, i_v18b⟩ ⟨i_v19a, i_v19b⟩ ⟨by decide, by decide⟩ ia_f21.1 H.size) (cwV 2 hts g_X12_tryShelf_4_2 rfl rfl rfl (by decide +kernel) ⟨Nat.le_of_ble_eq_true rfl, Nat.le_of_ble_eq_true rfl⟩) (pv_PV12 hPc hKc hDc (q0 := 0) rfl) rfl rfl hl.1 rfl (lv_room (Nat.le_of_ble_eq_true rfl)) dX12_tryShelf_169 ⟨Nat.le_of_ble_eq_true rfl, Nat.le_of_ble_eq_true rfl⟩) hS (fun q _ h => hFc q h) hFc (fun ra79 u t H1 locs ht hvm hwra79 hB hz1 hk1 hS => ?_)
                  try rw [hwra79] at hB
                  have hkra79_0 : ((4 : Int32)).toInt = 4 := by decide
                  obtain ⟨pt0_ra79, pt1_ra79, pt2_ra79, hP1, hK1, hD1⟩ := hB
                  rw [ht] at hP1
                  obtain ⟨hP2, hD2⟩ := va_join (wr := (wd_20b67a68 h1 g0 f20 h3 g2 fn74 h4 g3 fn73)) (w1 := (wd_5013416a h0 v0 r0 v1 v2 v3 v4 r1 r2 r3 r4 r5 r6 r7 v5 v6 r8 r9 r10 r11 v7 h1 r12 v8 v9 h2 r13 v10 v11 r14 v12 v13 r15 v14 w15 r16 x22 x23 h3 h4 r17 r18 r19 r20 v18 r21 r22 r23 v19 h2 g1 f21)) hP hD [0, 2] [1, 3, 4] rfl rfl (by decide) (by decide) hk1 hFc hP1 hD1
                  clear hP hD hPc hDc hKc hFc hP1 hK1 hD1 hk1 hz1
                  generalize H1 = H at hP2 hS ⊢
                  have hP := hP2.sub (ws' := (wd_90cd99f9 h0 v0 r0 v1 v2 v3 v4 r1 r2 r3 r4 r5 r6 r7 v5 v6 r8 r9 r10 r11 v7 h1 r12 v8 v9 h2 r13 v10 v11 r14 v12 v13 r15 v14 w15 r16 x22 x23 h3 h4 r17 r18 r19 r20 v18 r21 r22 r23 v19 h1 g0 f20 h2 g1 f21 h3 g2 fn74 h4 g3 fn73)) [3, 0, 4, 1, 2] rfl
                  have hD := hD2.sub (ws' := (wd_90cd99f9 h0 v0 r0 v1 v2 v3 v4 r1 r2 r3 r4 r5 r6 r7 v5 v6 r8 r9 r10 r11 v7 h1 r12 v8 v9 h2 r13 v10 v11 r14 v12 v13 r15 v14 w15 r16 x22 x23 h3 h4 r17 r18 r19 r20 v18 r21 r22 r23 v19 h1 g0 f20 h2 g1 f21 h3 g2 fn74 h4 g3 fn73)) [3, 0, 4, 1, 2] (by decide) rfl
                  clear hP2 hD2
                  have hJ81 : ∀ (x80 : Int32) (H : Heap) (locs : List Loc) (ls : Array Slot), 0 ≤ x80.toInt → x80.toInt ≤ 1 → va_P (dC, dI) vwCl (wd_90cd99f9 h0 v0 r0 v1 v2 v3 v4 r1 r2 r3 r4 r5 r6 r7 v5 v6 r8 r9 r10 r11 v7 h1 r12 v8 v9 h2 r13 v10 v11 r14 v12 v13 r15 v14 w15 r16 x22 x23 h3 h4 r17 r18 r19 r20 v18 r21 r22 r23 v19 h1 g0 f20 h2 g1 f21 h3 g2 fn74 h4 g3 fn73) H → va_D A (wd_90cd99f9 h0 v0 r0 v1 v2 v3 v4 r1 r2 r3 r4 r5 r6 r7 v5 v6 r8 r9 r10 r11 v7 h1 r12 v8 v9 h2 r13 v10 v11 r14 v12 v13 r15 v14 w15 r16 x22 x23 h3 h4 r17 r18 r19 r20 v18 r21 r22 r23 v19 h1 g0 f20 h2 g1 f21 h3 g2 fn74 h4 g3 fn73) → va_S A s.heap H locs → lv_has ls 7 [(6, .int x21), (5, .int x4), (0, .ref h0), (1, .int 4), (2, .int v24), (3, .int v25), (4, .int v26)] → W p l e ({ frames := 7, cells := 0, slots := 0, locals := 166 }) s m ([.ref h0, .int 4, .int v24, .int v25, .int v26] : List Value).toArray below meth c H locs 0 0 Q (F0 m 180 ls [.int x80, .int v25, .int t77, .int 5, .ref h0]) := by
                    intro x80 H locs ls qa_x80 qb_x80 hP hD hS hl
                    refine lv_iadd hx hb dX12_tryShelf_180 ?_
                    refine lv_topi (fun t82 et82 => ?_)
                    refine lv_iload hx hb dX12_tryShelf_181 (lv_at hl 6 rfl) ?_
                    have hPc := hP.sub (ws' := (wd_90cd99f9 h0 v0 r0 v1 v2 v3 v4 r1 r2 r3 r4 r5 r6 r7 v5 v6 r8 r9 r10 r11 v7 h1 r12 v8 v9 h2 r13 v10 v11 r14 v12 v13 r15 v14 w15 r16 x22 x23 h3 h4 r17 r18 r19 r20 v18 r21 r22 r23 v19 h1 g0 f20 h2 g1 f21 h3 g2 fn74 h4 g3 fn73)) [0, 1, 2, 3, 4] rfl
                    have hDc := hD.sub (ws' := (wd_90cd99f9 h0 v0 r0 v1 v2 v3 v4 r1 r2 r3 r4 r5 r6 r7 v5 v6 r8 r9 r10 r11 v7 h1 r12 v8 v9 h2 r13 v10 v11 r14 v12 v13 r15 v14 w15 r16 x22 x23 h3 h4 r17 r18 r19 r20 v18 r21 r22 r23 v19 h1 g0 f20 h2 g1 f21 h3 g2 fn74 h4 g3 fn73)) [0, 1, 2, 3, 4] (by decide) rfl
                    have hKc := hK.sub (tys' := [(g0, .int), (g1, .int), (g2, .int), (g3, .int)]) [0, 1, 2, 3] rfl
                    have hFc := va_free (wc := (wd_90cd99f9 h0 v0 r0 v1 v2 v3 v4 r1 r2 r3 r4 r5 r6 r7 v5 v6 r8 r9 r10 r11 v7 h1 r12 v8 v9 h2 r13 v10 v11 r14 v12 v13 r15 v14 w15 r16 x22 x23 h3 h4 r17 r18 r19 r20 v18 r21 r22 r23 v19 h1 g0 f20 h2 g1 f21 h3 g2 fn74 h4 g3 fn73)) hD hS hA [0, 1, 2, 3, 4] rfl
                    refine va_callv (va_runV (As := [.int 5, .int t77, .int t82, .int v26]) (rest := []) ⟨hx, hb, hml, hown, hts⟩ (k_X12_tryShelf_3 l dC dI h0 h1 h2 h3 h4 v0 r0 v1 v2 v3 v4 r1 r2 r3 r4 r5 r6 r7 v5 v6 r8 r9 r10 r11 v7 r12 v8 v9 r13 v10 v11 r14 v12 v13 r15 v14 w15 r16 x22 x23 r17 r18 r19 r20 v18 r21 r22 r23 v19 g0 f20 g1 f21 g2 fn74 g3 fn73 t77 t82 v26 ⟨i_v1a, i_v1b⟩ ⟨i_v5a, i_v5b⟩ ⟨i_v6a, i_v6b⟩ ⟨i_v7a, i_v7b⟩ ⟨i_v8a, i_v8b⟩ ⟨i_v9a, i_v9b⟩ ⟨i_v10a, i_v10b⟩ ⟨i_v14a, i_v14b⟩ ⟨i_v18a, i_v18b⟩ ⟨i_v19a, i_v19b⟩ ⟨i_v26a, i_v26b⟩ ia_f20 ia_f21 H.size) (cwV 4 hts g_X12_tryShelf_4_4 rfl rfl rfl (by decide +kernel) ⟨Nat.le_of_ble_eq_true rfl, Nat.le_of_ble_eq_true rfl⟩) (pv_PV12 hPc hKc hDc (q0 := 0) rfl) rfl rfl hl.1 rfl (lv_room (Nat.le_of_ble_eq_true rfl)) dX12_tryShelf_183 ⟨Nat.le_of_ble_eq_true rfl, Nat.le_of_ble_eq_true rfl⟩) hS (fun q _ h => hFc q h) hFc (fun u t H1 locs ht hvm hwra83 hB hz1 hk1 hS => ?_)
                    obtain ⟨x84, x85, fn86, fn87, hP1, hK1, hD1⟩ := hB
                    rw [ht] at hP1
                    obtain ⟨hP2, hD2⟩ := va_join (wr := []) (w1 := (wd_90cd99f9 h0 v0 r0 v1 v2 v3 v4 r1 r2 r3 r4 r5 r6 r7 v5 v6 r8 r9 r10 r11 v7 h1 r12 v8 v9 h2 r13 v10 v11 r14 v12 v13 r15 v14 w15 r16 x84 x85 h3 h4 r17 r18 r19 r20 v18 r21 r22 r23 v19 h1 g0 f20 h2 g1 f21 h3 g2 fn86 h4 g3 fn87)) hP hD [0, 1, 2, 3, 4] [] rfl rfl (by decide) (by decide) hk1 hFc hP1 hD1
                    clear hP hD hPc hDc hKc hFc hP1 hK1 hD1 hk1 hz1
                    generalize H1 = H at hP2 hS ⊢
                    have hP : va_P (dC, dI) vwCl (wd_90cd99f9 h0 v0 r0 v1 v2 v3 v4 r1 r2 r3 r4 r5 r6 r7 v5 v6 r8 r9 r10 r11 v7 h1 r12 v8 v9 h2 r13 v10 v11 r14 v12 v13 r15 v14 w15 r16 x84 x85 h3 h4 r17 r18 r19 r20 v18 r21 r22 r23 v19 h1 g0 f20 h2 g1 f21 h3 g2 fn86 h4 g3 fn87) H := hP2
                    have hD : va_D A (wd_90cd99f9 h0 v0 r0 v1 v2 v3 v4 r1 r2 r3 r4 r5 r6 r7 v5 v6 r8 r9 r10 r11 v7 h1 r12 v8 v9 h2 r13 v10 v11 r14 v12 v13 r15 v14 w15 r16 x84 x85 h3 h4 r17 r18 r19 r20 v18 r21 r22 r23 v19 h1 g0 f20 h2 g1 f21 h3 g2 fn86 h4 g3 fn87) := hD2
                    clear hP2 hD2
                    refine lv_aload_n hx hb dX12_tryShelf_186 rfl (lv_at hl 2 rfl) ?_
                    refine va_get (D := (dC, dI)) (ci := 12) (v := .ref h4) (C := RX12) (T := TX12) (N := 48) hx hb hts (fun _ h => List.mem_cons_of_mem _ (List.mem_append_right _ h)) hown hK hP 0 rfl rfl 38 (by decide) (hts (.fieldLink RX12 77 "LeftArgumentsModel" "room" "[I") (List.mem_cons_of_mem _ (List.mem_append_left _ (List.mem_of_getElem? (i := 31) rfl)))) (fun _ h9 => h9) rfl dX12_tryShelf_187 ?_
                    refine lv_iload hx hb dX12_tryShelf_190 (lv_at hl 0 rfl) ?_
                    refine lv_dup2_11 hx hb dX12_tryShelf_192 rfl rfl ?_
                    refine va_iald hx hb hK hP 4 3 rfl rfl (vp_in_iff.mpr ⟨by omega, by omega⟩) dX12_tryShelf_193 ?_
                    refine lv_topi (fun t88 et88 => ?_)
                    refine lv_aload_n hx hb dX12_tryShelf_194 rfl (lv_at hl 2 rfl) ?_
                    refine lv_iload_n hx hb dX12_tryShelf_195 rfl (lv_at hl 3 rfl) ?_
                    refine lv_iconst (v := 0) hx hb dX12_tryShelf_196 (by decide) ?_
                    have hPc := hP.sub (ws' := (wd_5013416a h0 v0 r0 v1 v2 v3 v4 r1 r2 r3 r4 r5 r6 r7 v5 v6 r8 r9 r10 r11 v7 h1 r12 v8 v9 h2 r13 v10 v11 r14 v12 v13 r15 v14 w15 r16 x84 x85 h3 h4 r17 r18 r19 r20 v18 r21 r22 r23 v19 h2 g1 f21)) [0, 2] rfl
                    have hDc := hD.sub (ws' := (wd_5013416a h0 v0 r0 v1 v2 v3 v4 r1 r2 r3 r4 r5 r6 r7 v5 v6 r8 r9 r10 r11 v7 h1 r12 v8 v9 h2 r13 v10 v11 r14 v12 v13 r15 v14 w15 r16 x84 x85 h3 h4 r17 r18 r19 r20 v18 r21 r22 r23 v19 h2 g1 f21)) [0, 2] (by decide) rfl
                    have hKc := hK.sub (tys' := [(g1, .int)]) [1] rfl
                    have hFc := va_free (wc := (wd_5013416a h0 v0 r0 v1 v2 v3 v4 r1 r2 r3 r4 r5 r6 r7 v5 v6 r8 r9 r10 r11 v7 h1 r12 v8 v9 h2 r13 v10 v11 r14 v12 v13 r15 v14 w15 r16 x84 x85 h3 h4 r17 r18 r19 r20 v18 r21 r22 r23 v19 h2 g1 f21)) hD hS hA [0, 2] rfl
                    refine va_calli (va_runV (As := [.int 4, .int 0]) (rest := [.int t88, .int x21, .ref h4]) ⟨hx, hb, hml, hown, hts⟩ (k_X12_of_3 l dC dI h0 h2 v0 r0 v1 v2 v3 v4 r1 r2 r3 r4 r5 r6 r7 v5 v6 r8 r9 r10 r11 v7 h1 r12 v8 v9 r13 v10 v11 r14 v12 v13 r15 v14 w15 r16 x84 x85 h3 h4 r17 r18 r19 r20 v18 r21 r22 r23 v19 g1 f21 4 ⟨i_v1a, i_v1b⟩ ⟨i_v5a, i_v5b⟩ ⟨i_v6a, i_v6b⟩ ⟨i_v7a, i_v7b⟩ ⟨i_v8a, i_v8b⟩ ⟨i_v9a, i_v9b⟩ ⟨i_v10a, i_v10b⟩ ⟨i_v14a, i_v14b⟩ ⟨i_v18a, i_v18b⟩ ⟨i_v19a, i_v19b⟩ ⟨by decide, by decide⟩ ia_f21.1 H.size) (cwV 2 hts g_X12_tryShelf_4_2 rfl rfl rfl (by decide +kernel) ⟨Nat.le_of_ble_eq_true rfl, Nat.le_of_ble_eq_true rfl⟩) (pv_PV12 hPc hKc hDc (q0 := 0) rfl) rfl rfl hl.1 rfl (lv_room (Nat.le_of_ble_eq_true rfl)) dX12_tryShelf_197 ⟨Nat.le_of_ble_eq_true rfl, Nat.le_of_ble_eq_true rfl⟩) hS (fun q _ h => hFc q h) hFc (fun ra89 u t H1 locs ht hvm hwra89 hB hz1 hk1 hS => ?_)
                    try rw [hwra89] at hB
                    have hkra89_0 : ((4 : Int32)).toInt = 4 := by decide
                    obtain ⟨pt0_ra89, pt1_ra89, pt2_ra89, hP1, hK1, hD1⟩ := hB
                    rw [ht] at hP1
                    obtain ⟨hP2, hD2⟩ := va_join (wr := (wd_20b67a68 h1 g0 f20 h3 g2 fn86 h4 g3 fn87)) (w1 := (wd_5013416a h0 v0 r0 v1 v2 v3 v4 r1 r2 r3 r4 r5 r6 r7 v5 v6 r8 r9 r10 r11 v7 h1 r12 v8 v9 h2 r13 v10 v11 r14 v12 v13 r15 v14 w15 r16 x84 x85 h3 h4 r17 r18 r19 r20 v18 r21 r22 r23 v19 h2 g1 f21)) hP hD [0, 2] [1, 3, 4] rfl rfl (by decide) (by decide) hk1 hFc hP1 hD1
                    clear hP hD hPc hDc hKc hFc hP1 hK1 hD1 hk1 hz1
                    generalize H1 = H at hP2 hS ⊢
                    have hP := hP2.sub (ws' := (wd_90cd99f9 h0 v0 r0 v1 v2 v3 v4 r1 r2 r3 r4 r5 r6 r7 v5 v6 r8 r9 r10 r11 v7 h1 r12 v8 v9 h2 r13 v10 v11 r14 v12 v13 r15 v14 w15 r16 x84 x85 h3 h4 r17 r18 r19 r20 v18 r21 r22 r23 v19 h1 g0 f20 h2 g1 f21 h3 g2 fn86 h4 g3 fn87)) [3, 0, 4, 1, 2] rfl
                    have hD := hD2.sub (ws' := (wd_90cd99f9 h0 v0 r0 v1 v2 v3 v4 r1 r2 r3 r4 r5 r6 r7 v5 v6 r8 r9 r10 r11 v7 h1 r12 v8 v9 h2 r13 v10 v11 r14 v12 v13 r15 v14 w15 r16 x84 x85 h3 h4 r17 r18 r19 r20 v18 r21 r22 r23 v19 h1 g0 f20 h2 g1 f21 h3 g2 fn86 h4 g3 fn87)) [3, 0, 4, 1, 2] (by decide) rfl
                    clear hP2 hD2
                    refine lv_isub hx hb dX12_tryShelf_200 ?_
                    refine lv_topi (fun t90 et90 => ?_)
                    refine va_iast hx hb hK hP hD hS 4 3 rfl rfl (vp_in_iff.mpr ⟨by omega, by omega⟩) dX12_tryShelf_201 (fun H locs hP hD hS => ?_)
                    obtain ⟨fn91, efn91⟩ : ∃ g : Nat → Int32, g = upd fn87 (Int32.toNatClampNeg x21) t90 := ⟨_, rfl⟩
                    rw [← efn91] at hP hD
                    have hP : va_P (dC, dI) vwCl (wd_90cd99f9 h0 v0 r0 v1 v2 v3 v4 r1 r2 r3 r4 r5 r6 r7 v5 v6 r8 r9 r10 r11 v7 h1 r12 v8 v9 h2 r13 v10 v11 r14 v12 v13 r15 v14 w15 r16 x84 x85 h3 h4 r17 r18 r19 r20 v18 r21 r22 r23 v19 h1 g0 f20 h2 g1 f21 h3 g2 fn86 h4 g3 fn91) H := hP
                    have hD : va_D A (wd_90cd99f9 h0 v0 r0 v1 v2 v3 v4 r1 r2 r3 r4 r5 r6 r7 v5 v6 r8 r9 r10 r11 v7 h1 r12 v8 v9 h2 r13 v10 v11 r14 v12 v13 r15 v14 w15 r16 x84 x85 h3 h4 r17 r18 r19 r20 v18 r21 r22 r23 v19 h1 g0 f20 h2 g1 f21 h3 g2 fn86 h4 g3 fn91) := hD
                    exact hJ37 x84 x85 fn86 fn91 H locs ls hP hD hS (lv_sub hl [0, 1, 2, 3, 4, 5, 6] rfl)
                  refine lv_icmp_ne (tgt := 179) hx hb dX12_tryShelf_172 (by decide) (fun c92 => ?_) (fun c92 => ?_)
                  · skip
                    have fc92 : ¬ (t78.toInt = ra79.toInt) := fun h9 => c92 (Int32.toInt_inj.mp h9)
                    have r1c92 := Int32.toInt_lt t78
                    have r2c92 := Int32.toInt_lt ra79
                    have r3c92 := Int32.le_toInt t78
                    have r4c92 := Int32.le_toInt ra79
                    refine lv_iconst (v := 0) hx hb dX12_tryShelf_179 (by decide) ?_
                    exact hJ81 0 H locs ls (by decide) (by decide) hP hD hS (lv_sub hl [0, 1, 2, 3, 4, 5, 6] rfl)
                  · skip
                    have fc92 : t78.toInt = ra79.toInt := congrArg Int32.toInt c92
                    have r1c92 := Int32.toInt_lt t78
                    have r2c92 := Int32.toInt_lt ra79
                    have r3c92 := Int32.le_toInt t78
                    have r4c92 := Int32.le_toInt ra79
                    refine lv_iconst (v := 1) hx hb dX12_tryShelf_175 (by decide) ?_
                    refine lv_goto (tgt := 180) hx hb dX12_tryShelf_176 (by decide) ?_
                    exact hJ81 1 H locs ls (by decide) (by decide) hP hD hS (lv_sub hl [0, 1, 2, 3, 4, 5, 6] rfl)
        exact hL31 _ 0 v16 v17 f22 f23 H locs ls (by decide) (by decide) (Nat.lt_succ_self _) hP hD hS (lv_sub hl [0, 1, 2, 3, 4, 5, 6] rfl)
      refine lv_if_eq (tgt := 68) hx hb dX12_tryShelf_56 (by decide) (fun c93 => ?_) (fun c93 => ?_)
      · skip
        have fc93 : v26.toInt = 0 := congrArg Int32.toInt c93
        refine lv_bipush (v := 8) hx hb dX12_tryShelf_68 (by decide) ?_
        exact hJ5 8 H locs ls (by decide) (by decide) hP hD hS (lv_sub hl [0, 1, 2, 3, 4] rfl)
      · skip
        have fc93 : ¬ (v26.toInt = 0) := fun h9 => c93 (Int32.toInt_inj.mp h9)
        refine lv_aload_n hx hb dX12_tryShelf_59 rfl (lv_at hl 0 rfl) ?_
        refine va_get (D := (dC, dI)) (ci := 12) (v := .ref h1) (C := RX12) (T := TX12) (N := 48) hx hb hts (fun _ h => List.mem_cons_of_mem _ (List.mem_append_right _ h)) hown hK hP 0 rfl rfl 20 (by decide) (hts (.fieldLink RX12 46 "LeftArgumentsModel" "rule" "[I") (List.mem_cons_of_mem _ (List.mem_append_left _ (List.mem_of_getElem? (i := 37) rfl)))) (fun _ h9 => h9) rfl dX12_tryShelf_60 ?_
        refine lv_iconst (v := 1) hx hb dX12_tryShelf_63 (by decide) ?_
        refine va_iald hx hb hK hP 1 0 rfl rfl (pv_c (x := 1) (n := 4) (by decide)) dX12_tryShelf_64 ?_
        refine lv_topi (fun t94 et94 => ?_)
        have gat94 : 0 ≤ t94.toInt ∧ t94.toInt ≤ 5 := by rw [et94]; exact ia_f20.1
        refine lv_goto (tgt := 70) hx hb dX12_tryShelf_65 (by decide) ?_
        exact hJ5 t94 H locs ls (by first | omega | decide) (by first | omega | decide) hP hD hS (lv_sub hl [0, 1, 2, 3, 4] rfl)
    · skip
      have fc3 : ra2.toInt = 0 := congrArg Int32.toInt c3
      have q0wra2 := wra2 (by omega)
      refine lv_aload_n hx hb dX12_tryShelf_42 rfl (lv_at hl 0 rfl) ?_
      refine lv_iload_n hx hb dX12_tryShelf_43 rfl (lv_at hl 1 rfl) ?_
      refine lv_iconst (v := 1) hx hb dX12_tryShelf_44 (by decide) ?_
      refine lv_iadd hx hb dX12_tryShelf_45 ?_
      refine lv_topi (fun tv95 etv95 => ?_)
      obtain rfl : tv95 = (5 : Int32) := etv95.trans (by first | rfl | decide)
      refine lv_iload_n hx hb dX12_tryShelf_46 rfl (lv_at hl 2 rfl) ?_
      refine lv_iload_n hx hb dX12_tryShelf_47 rfl (lv_at hl 3 rfl) ?_
      refine lv_iload hx hb dX12_tryShelf_48 (lv_at hl 4 rfl) ?_
      have hPc := hP.sub (ws' := (wd_90cd99f9 h0 v0 r0 v1 v2 v3 v4 r1 r2 r3 r4 r5 r6 r7 v5 v6 r8 r9 r10 r11 v7 h1 r12 v8 v9 h2 r13 v10 v11 r14 v12 v13 r15 v14 w15 r16 v16 v17 h3 h4 r17 r18 r19 r20 v18 r21 r22 r23 v19 h1 g0 f20 h2 g1 f21 h3 g2 f22 h4 g3 f23)) [0, 1, 2, 3, 4] rfl
      have hDc := hD.sub (ws' := (wd_90cd99f9 h0 v0 r0 v1 v2 v3 v4 r1 r2 r3 r4 r5 r6 r7 v5 v6 r8 r9 r10 r11 v7 h1 r12 v8 v9 h2 r13 v10 v11 r14 v12 v13 r15 v14 w15 r16 v16 v17 h3 h4 r17 r18 r19 r20 v18 r21 r22 r23 v19 h1 g0 f20 h2 g1 f21 h3 g2 f22 h4 g3 f23)) [0, 1, 2, 3, 4] (by decide) rfl
      have hKc := hK.sub (tys' := [(g0, .int), (g1, .int), (g2, .int), (g3, .int)]) [0, 1, 2, 3] rfl
      have hFc := va_free (wc := (wd_90cd99f9 h0 v0 r0 v1 v2 v3 v4 r1 r2 r3 r4 r5 r6 r7 v5 v6 r8 r9 r10 r11 v7 h1 r12 v8 v9 h2 r13 v10 v11 r14 v12 v13 r15 v14 w15 r16 v16 v17 h3 h4 r17 r18 r19 r20 v18 r21 r22 r23 v19 h1 g0 f20 h2 g1 f21 h3 g2 f22 h4 g3 f23)) hD hS hA [0, 1, 2, 3, 4] rfl
      refine va_callv (va_runV (As := [.int 5, .int v24, .int v25, .int v26]) (rest := []) ⟨hx, hb, hml, hown, hts⟩ (k_X12_tryShelf_3 l dC dI h0 h1 h2 h3 h4 v0 r0 v1 v2 v3 v4 r1 r2 r3 r4 r5 r6 r7 v5 v6 r8 r9 r10 r11 v7 r12 v8 v9 r13 v10 v11 r14 v12 v13 r15 v14 w15 r16 v16 v17 r17 r18 r19 r20 v18 r21 r22 r23 v19 g0 f20 g1 f21 g2 f22 g3 f23 v24 v25 v26 ⟨i_v1a, i_v1b⟩ ⟨i_v5a, i_v5b⟩ ⟨i_v6a, i_v6b⟩ ⟨i_v7a, i_v7b⟩ ⟨i_v8a, i_v8b⟩ ⟨i_v9a, i_v9b⟩ ⟨i_v10a, i_v10b⟩ ⟨i_v14a, i_v14b⟩ ⟨i_v18a, i_v18b⟩ ⟨i_v19a, i_v19b⟩ ⟨i_v26a, i_v26b⟩ ia_f20 ia_f21 H.size) (cwV 4 hts g_X12_tryShelf_4_4 rfl rfl rfl (by decide +kernel) ⟨Nat.le_of_ble_eq_true rfl, Nat.le_of_ble_eq_true rfl⟩) (pv_PV12 hPc hKc hDc (q0 := 0) rfl) rfl rfl hl.1 rfl (lv_room (Nat.le_of_ble_eq_true rfl)) dX12_tryShelf_50 ⟨Nat.le_of_ble_eq_true rfl, Nat.le_of_ble_eq_true rfl⟩) hS (fun q _ h => hFc q h) hFc (fun u t H1 locs ht hvm hwra96 hB hz1 hk1 hS => ?_)
      obtain ⟨x97, x98, fn99, fn100, hP1, hK1, hD1⟩ := hB
      rw [ht] at hP1
      obtain ⟨hP2, hD2⟩ := va_join (wr := []) (w1 := (wd_90cd99f9 h0 v0 r0 v1 v2 v3 v4 r1 r2 r3 r4 r5 r6 r7 v5 v6 r8 r9 r10 r11 v7 h1 r12 v8 v9 h2 r13 v10 v11 r14 v12 v13 r15 v14 w15 r16 x97 x98 h3 h4 r17 r18 r19 r20 v18 r21 r22 r23 v19 h1 g0 f20 h2 g1 f21 h3 g2 fn99 h4 g3 fn100)) hP hD [0, 1, 2, 3, 4] [] rfl rfl (by decide) (by decide) hk1 hFc hP1 hD1
      clear hP hD hPc hDc hKc hFc hP1 hK1 hD1 hk1 hz1
      generalize H1 = H at hP2 hS ⊢
      have hP : va_P (dC, dI) vwCl (wd_90cd99f9 h0 v0 r0 v1 v2 v3 v4 r1 r2 r3 r4 r5 r6 r7 v5 v6 r8 r9 r10 r11 v7 h1 r12 v8 v9 h2 r13 v10 v11 r14 v12 v13 r15 v14 w15 r16 x97 x98 h3 h4 r17 r18 r19 r20 v18 r21 r22 r23 v19 h1 g0 f20 h2 g1 f21 h3 g2 fn99 h4 g3 fn100) H := hP2
      have hD : va_D A (wd_90cd99f9 h0 v0 r0 v1 v2 v3 v4 r1 r2 r3 r4 r5 r6 r7 v5 v6 r8 r9 r10 r11 v7 h1 r12 v8 v9 h2 r13 v10 v11 r14 v12 v13 r15 v14 w15 r16 x97 x98 h3 h4 r17 r18 r19 r20 v18 r21 r22 r23 v19 h1 g0 f20 h2 g1 f21 h3 g2 fn99 h4 g3 fn100) := hD2
      clear hP2 hD2
      subst hQ
      have hP9 := hP.sub (ws' := (wd_90cd99f9 h0 v0 r0 v1 v2 v3 v4 r1 r2 r3 r4 r5 r6 r7 v5 v6 r8 r9 r10 r11 v7 h1 r12 v8 v9 h2 r13 v10 v11 r14 v12 v13 r15 v14 w15 r16 x97 x98 h3 h4 r17 r18 r19 r20 v18 r21 r22 r23 v19 h1 g0 f20 h2 g1 f21 h3 g2 fn99 h4 g3 fn100)) [0, 1, 2, 3, 4] rfl
      have hD9 := hD.sub (ws' := (wd_90cd99f9 h0 v0 r0 v1 v2 v3 v4 r1 r2 r3 r4 r5 r6 r7 v5 v6 r8 r9 r10 r11 v7 h1 r12 v8 v9 h2 r13 v10 v11 r14 v12 v13 r15 v14 w15 r16 x97 x98 h3 h4 r17 r18 r19 r20 v18 r21 r22 r23 v19 h1 g0 f20 h2 g1 f21 h3 g2 fn99 h4 g3 fn100)) [0, 1, 2, 3, 4] (by decide) rfl
      have hK9 := hK.sub (tys' := []) [] rfl
      exact W.vret hx hb hr (fun t ht hW => ⟨⟨(), rfl, trivial, ⟨x97, x98, fn99, fn100, by rw [ht]; exact hP9, va_K.moved hW.alike hK9, hD9⟩⟩, hS.F ht⟩) hS.2.2 dX12_tryShelf_53
  · skip
    have fc1 : ¬ (v16.toInt = (-1)) := fun h9 => c1 (Int32.toInt_inj.mp h9)
    refine lv_iload_n hx hb dX12_tryShelf_8 rfl (lv_at hl 3 rfl) ?_
    refine lv_aload_n hx hb dX12_tryShelf_9 rfl (lv_at hl 0 rfl) ?_
    refine va_get (D := (dC, dI)) (ci := 12) (v := .int v17) (C := RX12) (T := TX12) (N := 48) hx hb hts (fun _ h => List.mem_cons_of_mem _ (List.mem_append_right _ h)) hown hK hP 0 rfl rfl 36 (by decide) (hts (.fieldLink RX12 391 "LeftArgumentsModel" "bestMany" "I") (List.mem_cons_of_mem _ (List.mem_append_left _ (List.mem_of_getElem? (i := 33) rfl)))) (fun _ h9 => h9) rfl dX12_tryShelf_10 ?_
    refine lv_icmp_lt (tgt := 17) hx hb dX12_tryShelf_13 (by decide) (fun c101 => ?_) (fun c101 => ?_)
    · skip
      have fc101 : v25.toInt < v17.toInt := Int32.lt_iff_toInt_lt.mp c101
      have r1c101 := Int32.toInt_lt v25
      have r2c101 := Int32.toInt_lt v17
      have r3c101 := Int32.le_toInt v25
      have r4c101 := Int32.le_toInt v17
      refine lv_iload_n hx hb dX12_tryShelf_17 rfl (lv_at hl 1 rfl) ?_
      refine lv_bipush (v := 8) hx hb dX12_tryShelf_18 (by decide) ?_
      refine lv_icmp_ne (tgt := 34) hx hb dX12_tryShelf_20 (by decide) (fun _ => ?_) (fun c => absurd c (by decide))
      refine lv_aload_n hx hb dX12_tryShelf_34 rfl (lv_at hl 0 rfl) ?_
      refine lv_iload_n hx hb dX12_tryShelf_35 rfl (lv_at hl 1 rfl) ?_
      have hPc := hP.sub (ws' := (wd_5013416a h0 v0 r0 v1 v2 v3 v4 r1 r2 r3 r4 r5 r6 r7 v5 v6 r8 r9 r10 r11 v7 h1 r12 v8 v9 h2 r13 v10 v11 r14 v12 v13 r15 v14 w15 r16 v16 v17 h3 h4 r17 r18 r19 r20 v18 r21 r22 r23 v19 h2 g1 f21)) [0, 2] rfl
      have hDc := hD.sub (ws' := (wd_5013416a h0 v0 r0 v1 v2 v3 v4 r1 r2 r3 r4 r5 r6 r7 v5 v6 r8 r9 r10 r11 v7 h1 r12 v8 v9 h2 r13 v10 v11 r14 v12 v13 r15 v14 w15 r16 v16 v17 h3 h4 r17 r18 r19 r20 v18 r21 r22 r23 v19 h2 g1 f21)) [0, 2] (by decide) rfl
      have hKc := hK.sub (tys' := [(g1, .int)]) [1] rfl
      have hFc := va_free (wc := (wd_5013416a h0 v0 r0 v1 v2 v3 v4 r1 r2 r3 r4 r5 r6 r7 v5 v6 r8 r9 r10 r11 v7 h1 r12 v8 v9 h2 r13 v10 v11 r14 v12 v13 r15 v14 w15 r16 v16 v17 h3 h4 r17 r18 r19 r20 v18 r21 r22 r23 v19 h2 g1 f21)) hD hS hA [0, 2] rfl
      refine va_calli (va_runV (As := [.int 4]) (rest := []) ⟨hx, hb, hml, hown, hts⟩ (k_X12_isThere l dC dI h0 h2 v0 r0 v1 v2 v3 v4 r1 r2 r3 r4 r5 r6 r7 v5 v6 r8 r9 r10 r11 v7 h1 r12 v8 v9 r13 v10 v11 r14 v12 v13 r15 v14 w15 r16 v16 v17 h3 h4 r17 r18 r19 r20 v18 r21 r22 r23 v19 g1 f21 4 ⟨i_v1a, i_v1b⟩ ⟨i_v5a, i_v5b⟩ ⟨i_v6a, i_v6b⟩ ⟨i_v7a, i_v7b⟩ ⟨i_v8a, i_v8b⟩ ⟨i_v9a, i_v9b⟩ ⟨i_v10a, i_v10b⟩ ⟨i_v14a, i_v14b⟩ ⟨i_v18a, i_v18b⟩ ⟨i_v19a, i_v19b⟩ ia_f21.1 H.size) (cwV 1 hts g_X12_tryShelf_4_0 rfl rfl rfl (by decide +kernel) ⟨Nat.le_of_ble_eq_true rfl, Nat.le_of_ble_eq_true rfl⟩) (pv_PV12 hPc hKc hDc (q0 := 0) rfl) rfl rfl hl.1 rfl (lv_room (Nat.le_of_ble_eq_true rfl)) dX12_tryShelf_36 ⟨Nat.le_of_ble_eq_true rfl, Nat.le_of_ble_eq_true rfl⟩) hS (fun q _ h => hFc q h) hFc (fun ra102 u t H1 locs ht hvm hwra102 hB hz1 hk1 hS => ?_)
      try rw [hwra102] at hB
      have hkra102_0 : ((4 : Int32)).toInt = 4 := by decide
      obtain ⟨pt0_ra102, pt1_ra102, pt2_ra102, pt3_ra102, pt4_ra102, pt5_ra102, hP1, hK1, hD1⟩ := hB
      rw [ht] at hP1
      obtain ⟨hP2, hD2⟩ := va_join (wr := (wd_20b67a68 h1 g0 f20 h3 g2 f22 h4 g3 f23)) (w1 := (wd_5013416a h0 v0 r0 v1 v2 v3 v4 r1 r2 r3 r4 r5 r6 r7 v5 v6 r8 r9 r10 r11 v7 h1 r12 v8 v9 h2 r13 v10 v11 r14 v12 v13 r15 v14 w15 r16 v16 v17 h3 h4 r17 r18 r19 r20 v18 r21 r22 r23 v19 h2 g1 f21)) hP hD [0, 2] [1, 3, 4] rfl rfl (by decide) (by decide) hk1 hFc hP1 hD1
      clear hP hD hPc hDc hKc hFc hP1 hK1 hD1 hk1 hz1
      generalize H1 = H at hP2 hS ⊢
      have hP := hP2.sub (ws' := (wd_90cd99f9 h0 v0 r0 v1 v2 v3 v4 r1 r2 r3 r4 r5 r6 r7 v5 v6 r8 r9 r10 r11 v7 h1 r12 v8 v9 h2 r13 v10 v11 r14 v12 v13 r15 v14 w15 r16 v16 v17 h3 h4 r17 r18 r19 r20 v18 r21 r22 r23 v19 h1 g0 f20 h2 g1 f21 h3 g2 f22 h4 g3 f23)) [3, 0, 4, 1, 2] rfl
      have hD := hD2.sub (ws' := (wd_90cd99f9 h0 v0 r0 v1 v2 v3 v4 r1 r2 r3 r4 r5 r6 r7 v5 v6 r8 r9 r10 r11 v7 h1 r12 v8 v9 h2 r13 v10 v11 r14 v12 v13 r15 v14 w15 r16 v16 v17 h3 h4 r17 r18 r19 r20 v18 r21 r22 r23 v19 h1 g0 f20 h2 g1 f21 h3 g2 f22 h4 g3 f23)) [3, 0, 4, 1, 2] (by decide) rfl
      clear hP2 hD2
      have wra102 : ra102.toInt = 0 → ¬ f21 (pm_I 4 7) = 1 := fun h9 => pt5_ra102 h9 (by omega) (by omega)
      refine lv_if_ne (tgt := 54) hx hb dX12_tryShelf_39 (by decide) (fun c103 => ?_) (fun c103 => ?_)
      · skip
        have fc103 : ¬ (ra102.toInt = 0) := fun h9 => c103 (Int32.toInt_inj.mp h9)
        have q1pt4_ra102 := pt4_ra102 (by omega)
        refine lv_iload hx hb dX12_tryShelf_54 (lv_at hl 4 rfl) ?_
        have hJ105 : ∀ (x104 : Int32) (H : Heap) (locs : List Loc) (ls : Array Slot), 0 ≤ x104.toInt → x104.toInt ≤ 8 → va_P (dC, dI) vwCl (wd_90cd99f9 h0 v0 r0 v1 v2 v3 v4 r1 r2 r3 r4 r5 r6 r7 v5 v6 r8 r9 r10 r11 v7 h1 r12 v8 v9 h2 r13 v10 v11 r14 v12 v13 r15 v14 w15 r16 v16 v17 h3 h4 r17 r18 r19 r20 v18 r21 r22 r23 v19 h1 g0 f20 h2 g1 f21 h3 g2 f22 h4 g3 f23) H → va_D A (wd_90cd99f9 h0 v0 r0 v1 v2 v3 v4 r1 r2 r3 r4 r5 r6 r7 v5 v6 r8 r9 r10 r11 v7 h1 r12 v8 v9 h2 r13 v10 v11 r14 v12 v13 r15 v14 w15 r16 v16 v17 h3 h4 r17 r18 r19 r20 v18 r21 r22 r23 v19 h1 g0 f20 h2 g1 f21 h3 g2 f22 h4 g3 f23) → va_S A s.heap H locs → lv_has ls 7 [(0, .ref h0), (1, .int 4), (2, .int v24), (3, .int v25), (4, .int v26)] → W p l e ({ frames := 7, cells := 0, slots := 0, locals := 166 }) s m ([.ref h0, .int 4, .int v24, .int v25, .int v26] : List Value).toArray below meth c H locs 0 0 Q (F0 m 70 ls [.int x104]) := by
          intro x104 H locs ls qa_x104 qb_x104 hP hD hS hl
          refine lv_istore (lv' := [(5, .int x104), (0, .ref h0), (1, .int 4), (2, .int v24), (3, .int v25), (4, .int v26)]) hx hb dX12_tryShelf_70 hl (by decide) rfl (fun ls hl => ?_)
          refine lv_iconst (v := 0) hx hb dX12_tryShelf_72 (by decide) ?_
          refine lv_istore (lv' := [(6, .int 0), (5, .int x104), (0, .ref h0), (1, .int 4), (2, .int v24), (3, .int v25), (4, .int v26)]) hx hb dX12_tryShelf_73 hl (by decide) rfl (fun ls hl => ?_)
          have hL131 : ∀ (n9 : Nat), ∀ (x121 : Int32) (x122 : Int32) (x123 : Int32) (fn124 : Nat → Int32) (fn125 : Nat → Int32) (H : Heap) (locs : List Loc) (ls : Array Slot), 0 ≤ x121.toInt → x121.toInt ≤ 8 → (8 - x121.toInt).toNat < n9 → va_P (dC, dI) vwCl (wd_90cd99f9 h0 v0 r0 v1 v2 v3 v4 r1 r2 r3 r4 r5 r6 r7 v5 v6 r8 r9 r10 r11 v7 h1 r12 v8 v9 h2 r13 v10 v11 r14 v12 v13 r15 v14 w15 r16 x122 x123 h3 h4 r17 r18 r19 r20 v18 r21 r22 r23 v19 h1 g0 f20 h2 g1 f21 h3 g2 fn124 h4 g3 fn125) H → va_D A (wd_90cd99f9 h0 v0 r0 v1 v2 v3 v4 r1 r2 r3 r4 r5 r6 r7 v5 v6 r8 r9 r10 r11 v7 h1 r12 v8 v9 h2 r13 v10 v11 r14 v12 v13 r15 v14 w15 r16 x122 x123 h3 h4 r17 r18 r19 r20 v18 r21 r22 r23 v19 h1 g0 f20 h2 g1 f21 h3 g2 fn124 h4 g3 fn125) → va_S A s.heap H locs → lv_has ls 7 [(6, .int x121), (5, .int x104), (0, .ref h0), (1, .int 4), (2, .int v24), (3, .int v25), (4, .int v26)] → W p l e ({ frames := 7, cells := 0, slots := 0, locals := 166 }) s m ([.ref h0, .int 4, .int v24, .int v25, .int v26] : List Value).toArray below meth c H locs 0 0 Q (F0 m 75 ls []) := by
            intro n9
            induction n9 with
            | zero => intro x121 x122 x123 fn124 fn125 H locs ls qa_x121 qb_x121 hm9 hP hD hS hl; exact absurd hm9 (Nat.not_lt_zero _)
            | succ n9 ih_hL131 =>
              intro x121 x122 x123 fn124 fn125 H locs ls qa_x121 qb_x121 hm9 hP hD hS hl
              refine lv_iload hx hb dX12_tryShelf_75 (lv_at hl 0 rfl) ?_
              refine lv_iload hx hb dX12_tryShelf_77 (lv_at hl 1 rfl) ?_
              refine lv_icmp_ge (tgt := 208) hx hb dX12_tryShelf_79 (by decide) (fun c132 => ?_) (fun c132 => ?_)
              · skip
                have fc132 : x104.toInt ≤ x121.toInt := Int32.le_iff_toInt_le.mp c132
                have r1c132 := Int32.toInt_lt x121
                have r2c132 := Int32.toInt_lt x104
                have r3c132 := Int32.le_toInt x121
                have r4c132 := Int32.le_toInt x104
                subst hQ
                have hP9 := hP.sub (ws' := (wd_90cd99f9 h0 v0 r0 v1 v2 v3 v4 r1 r2 r3 r4 r5 r6 r7 v5 v6 r8 r9 r10 r11 v7 h1 r12 v8 v9 h2 r13 v10 v11 r14 v12 v13 r15 v14 w15 r16 x122 x123 h3 h4 r17 r18 r19 r20 v18 r21 r22 r23 v19 h1 g0 f20 h2 g1 f21 h3 g2 fn124 h4 g3 fn125)) [0, 1, 2, 3, 4] rfl
                have hD9 := hD.sub (ws' := (wd_90cd99f9 h0 v0 r0 v1 v2 v3 v4 r1 r2 r3 r4 r5 r6 r7 v5 v6 r8 r9 r10 r11 v7 h1 r12 v8 v9 h2 r13 v10 v11 r14 v12 v13 r15 v14 w15 r16 x122 x123 h3 h4 r17 r18 r19 r20 v18 r21 r22 r23 v19 h1 g0 f20 h2 g1 f21 h3 g2 fn124 h4 g3 fn125)) [0, 1, 2, 3, 4] (by decide) rfl
                have hK9 := hK.sub (tys' := []) [] rfl
                exact W.vret hx hb hr (fun t ht hW => ⟨⟨(), rfl, trivial, ⟨x122, x123, fn124, fn125, by rw [ht]; exact hP9, va_K.moved hW.alike hK9, hD9⟩⟩, hS.F ht⟩) hS.2.2 dX12_tryShelf_208
              · skip
                have fc132 : ¬ (x104.toInt ≤ x121.toInt) := fun h9 => c132 (Int32.le_iff_toInt_le.mpr h9)
                have r1c132 := Int32.toInt_lt x121
                have r2c132 := Int32.toInt_lt x104
                have r3c132 := Int32.le_toInt x121
                have r4c132 := Int32.le_toInt x104
                refine lv_iload hx hb dX12_tryShelf_82 (lv_at hl 6 rfl) ?_
                have hJ137 : ∀ (x133 : Int32) (x134 : Int32) (fn135 : Nat → Int32) (fn136 : Nat → Int32) (H : Heap) (locs : List Loc) (ls : Array Slot), va_P (dC, dI) vwCl (wd_90cd99f9 h0 v0 r0 v1 v2 v3 v4 r1 r2 r3 r4 r5 r6 r7 v5 v6 r8 r9 r10 r11 v7 h1 r12 v8 v9 h2 r13 v10 v11 r14 v12 v13 r15 v14 w15 r16 x133 x134 h3 h4 r17 r18 r19 r20 v18 r21 r22 r23 v19 h1 g0 f20 h2 g1 f21 h3 g2 fn135 h4 g3 fn136) H → va_D A (wd_90cd99f9 h0 v0 r0 v1 v2 v3 v4 r1 r2 r3 r4 r5 r6 r7 v5 v6 r8 r9 r10 r11 v7 h1 r12 v8 v9 h2 r13 v10 v11 r14 v12 v13 r15 v14 w15 r16 x133 x134 h3 h4 r17 r18 r19 r20 v18 r21 r22 r23 v19 h1 g0 f20 h2 g1 f21 h3 g2 fn135 h4 g3 fn136) → va_S A s.heap H locs → lv_has ls 7 [(6, .int x121), (5, .int x104), (0, .ref h0), (1, .int 4), (2, .int v24), (3, .int v25), (4, .int v26)] → W p l e ({ frames := 7, cells := 0, slots := 0, locals := 166 }) s m ([.ref h0, .int 4, .int v24, .int v25, .int v26] : List Value).toArray below meth c H locs 0 0 Q (F0 m 202 ls []) := by
                  intro x133 x134 fn135 fn136 H locs ls hP hD hS hl
                  obtain ⟨t138, et138⟩ : ∃ y : Int32, y = x121 + 1 := ⟨_, rfl⟩
                  have gt138 : t138.toInt = x121.toInt + (1) := pv_add (a := x121.toInt) (b := (1)) et138 rfl (by decide) (by omega) (by omega)
                  refine lv_iinc (v := t138) (lv' := [(6, .int t138), (5, .int x104), (0, .ref h0), (1, .int 4), (2, .int v24), (3, .int v25), (4, .int v26)]) hx hb dX12_tryShelf_202 hl (k := 0) rfl (by rw [et138]; rfl) (by decide) rfl (fun ls hl => ?_)
                  refine lv_goto (tgt := 75) hx hb dX12_tryShelf_205 (by decide) ?_
                  exact ih_hL131 t138 x133 x134 fn135 fn136 H locs ls (by first | omega | decide) (by first | omega | decide) (by first | omega | (simp only [Int.toNat] at *; omega)) hP hD hS (lv_sub hl [0, 1, 2, 3, 4, 5, 6] rfl)
                refine lv_if_eq (tgt := 113) hx hb dX12_tryShelf_84 (by decide) (fun c139 => ?_) (fun c139 => ?_)
                · skip
                  have fc139 : v26.toInt = 0 := congrArg Int32.toInt c139
                  refine lv_aload_n hx hb dX12_tryShelf_113 rfl (lv_at hl 2 rfl) ?_
                  refine lv_iload_n hx hb dX12_tryShelf_114 rfl (lv_at hl 3 rfl) ?_
                  refine lv_iload hx hb dX12_tryShelf_115 (lv_at hl 0 rfl) ?_
                  have hPc := hP.sub (ws' := (wd_f4deda84 h0 v0 r0 v1 v2 v3 v4 r1 r2 r3 r4 r5 r6 r7 v5 v6 r8 r9 r10 r11 v7 h1 r12 v8 v9 h2 r13 v10 v11 r14 v12 v13 r15 v14 w15 r16 x122 x123 h3 h4 r17 r18 r19 r20 v18 r21 r22 r23 v19 h2 g1 f21 h3 g2 fn124)) [0, 2, 3] rfl
                  have hDc := hD.sub (ws' := (wd_f4deda84 h0 v0 r0 v1 v2 v3 v4 r1 r2 r3 r4 r5 r6 r7 v5 v6 r8 r9 r10 r11 v7 h1 r12 v8 v9 h2 r13 v10 v11 r14 v12 v13 r15 v14 w15 r16 x122 x123 h3 h4 r17 r18 r19 r20 v18 r21 r22 r23 v19 h2 g1 f21 h3 g2 fn124)) [0, 2, 3] (by decide) rfl
                  have hKc := hK.sub (tys' := [(g1, .int), (g2, .int)]) [1, 2] rfl
                  have hFc := va_free (wc := (wd_f4deda84 h0 v0 r0 v1 v2 v3 v4 r1 r2 r3 r4 r5 r6 r7 v5 v6 r8 r9 r10 r11 v7 h1 r12 v8 v9 h2 r13 v10 v11 r14 v12 v13 r15 v14 w15 r16 x122 x123 h3 h4 r17 r18 r19 r20 v18 r21 r22 r23 v19 h2 g1 f21 h3 g2 fn124)) hD hS hA [0, 2, 3] rfl
                  refine va_calli (va_runV (As := [.int 4, .int x121]) (rest := []) ⟨hx, hb, hml, hown, hts⟩ (k_X12_isCalm l dC dI h0 h2 h3 v0 r0 v1 v2 v3 v4 r1 r2 r3 r4 r5 r6 r7 v5 v6 r8 r9 r10 r11 v7 h1 r12 v8 v9 r13 v10 v11 r14 v12 v13 r15 v14 w15 r16 x122 x123 h4 r17 r18 r19 r20 v18 r21 r22 r23 v19 g1 f21 g2 fn124 4 x121 ⟨i_v1a, i_v1b⟩ ⟨i_v5a, i_v5b⟩ ⟨i_v6a, i_v6b⟩ ⟨i_v7a, i_v7b⟩ ⟨i_v8a, i_v8b⟩ ⟨i_v9a, i_v9b⟩ ⟨i_v10a, i_v10b⟩ ⟨i_v14a, i_v14b⟩ ⟨i_v18a, i_v18b⟩ ⟨i_v19a, i_v19b⟩ ⟨by decide, by decide⟩ ia_f21 H.size) (cwV 2 hts g_X12_tryShelf_4_1 rfl rfl rfl (by decide +kernel) ⟨Nat.le_of_ble_eq_true rfl, Nat.le_of_ble_eq_true rfl⟩) (pv_PV12 hPc hKc hDc (q0 := 0) rfl) rfl rfl hl.1 rfl (lv_room (Nat.le_of_ble_eq_true rfl)) dX12_tryShelf_117 ⟨Nat.le_of_ble_eq_true rfl, Nat.le_of_ble_eq_true rfl⟩) hS (fun q _ h => hFc q h) hFc (fun ra140 u t H1 locs ht hvm hwra140 hB hz1 hk1 hS => ?_)
                  try rw [hwra140] at hB
                  have hkra140_0 : ((4 : Int32)).toInt = 4 := by decide
                  obtain ⟨pt0_ra140, pt1_ra140, hP1, hK1, hD1⟩ := hB
                  rw [ht] at hP1
                  obtain ⟨hP2, hD2⟩ := va_join (wr := (wd_5481fbec h1 g0 f20 h4 g3 fn125)) (w1 := (wd_f4deda84 h0 v0 r0 v1 v2 v3 v4 r1 r2 r3 r4 r5 r6 r7 v5 v6 r8 r9 r10 r11 v7 h1 r12 v8 v9 h2 r13 v10 v11 r14 v12 v13 r15 v14 w15 r16 x122 x123 h3 h4 r17 r18 r19 r20 v18 r21 r22 r23 v19 h2 g1 f21 h3 g2 fn124)) hP hD [0, 2, 3] [1, 4] rfl rfl (by decide) (by decide) hk1 hFc hP1 hD1
                  clear hP hD hPc hDc hKc hFc hP1 hK1 hD1 hk1 hz1
                  generalize H1 = H at hP2 hS ⊢
                  have hP := hP2.sub (ws' := (wd_90cd99f9 h0 v0 r0 v1 v2 v3 v4 r1 r2 r3 r4 r5 r6 r7 v5 v6 r8 r9 r10 r11 v7 h1 r12 v8 v9 h2 r13 v10 v11 r14 v12 v13 r15 v14 w15 r16 x122 x123 h3 h4 r17 r18 r19 r20 v18 r21 r22 r23 v19 h1 g0 f20 h2 g1 f21 h3 g2 fn124 h4 g3 fn125)) [2, 0, 3, 4, 1] rfl
                  have hD := hD2.sub (ws' := (wd_90cd99f9 h0 v0 r0 v1 v2 v3 v4 r1 r2 r3 r4 r5 r6 r7 v5 v6 r8 r9 r10 r11 v7 h1 r12 v8 v9 h2 r13 v10 v11 r14 v12 v13 r15 v14 w15 r16 x122 x123 h3 h4 r17 r18 r19 r20 v18 r21 r22 r23 v19 h1 g0 f20 h2 g1 f21 h3 g2 fn124 h4 g3 fn125)) [2, 0, 3, 4, 1] (by decide) rfl
                  clear hP2 hD2
                  refine lv_if_eq (tgt := 202) hx hb dX12_tryShelf_120 (by decide) (fun c141 => ?_) (fun c141 => ?_)
                  · skip
                    have fc141 : ra140.toInt = 0 := congrArg Int32.toInt c141
                    exact hJ137 x122 x123 fn124 fn125 H locs ls hP hD hS (lv_sub hl [0, 1, 2, 3, 4, 5, 6] rfl)
                  · skip
                    have fc141 : ¬ (ra140.toInt = 0) := fun h9 => c141 (Int32.toInt_inj.mp h9)
                    refine lv_aload_n hx hb dX12_tryShelf_123 rfl (lv_at hl 2 rfl) ?_
                    refine va_get (D := (dC, dI)) (ci := 12) (v := .ref h4) (C := RX12) (T := TX12) (N := 48) hx hb hts (fun _ h => List.mem_cons_of_mem _ (List.mem_append_right _ h)) hown hK hP 0 rfl rfl 38 (by decide) (hts (.fieldLink RX12 77 "LeftArgumentsModel" "room" "[I") (List.mem_cons_of_mem _ (List.mem_append_left _ (List.mem_of_getElem? (i := 31) rfl)))) (fun _ h9 => h9) rfl dX12_tryShelf_124 ?_
                    refine lv_iload hx hb dX12_tryShelf_127 (lv_at hl 0 rfl) ?_
                    refine lv_dup2_11 hx hb dX12_tryShelf_129 rfl rfl ?_
                    refine va_iald hx hb hK hP 4 3 rfl rfl (vp_in_iff.mpr ⟨by omega, by omega⟩) dX12_tryShelf_130 ?_
                    refine lv_topi (fun t142 et142 => ?_)
                    refine lv_aload_n hx hb dX12_tryShelf_131 rfl (lv_at hl 2 rfl) ?_
                    refine lv_iload_n hx hb dX12_tryShelf_132 rfl (lv_at hl 3 rfl) ?_
                    refine lv_iconst (v := 0) hx hb dX12_tryShelf_133 (by decide) ?_
                    have hPc := hP.sub (ws' := (wd_5013416a h0 v0 r0 v1 v2 v3 v4 r1 r2 r3 r4 r5 r6 r7 v5 v6 r8 r9 r10 r11 v7 h1 r12 v8 v9 h2 r13 v10 v11 r14 v12 v13 r15 v14 w15 r16 x122 x123 h3 h4 r17 r18 r19 r20 v18 r21 r22 r23 v19 h2 g1 f21)) [0, 2] rfl
                    have hDc := hD.sub (ws' := (wd_5013416a h0 v0 r0 v1 v2 v3 v4 r1 r2 r3 r4 r5 r6 r7 v5 v6 r8 r9 r10 r11 v7 h1 r12 v8 v9 h2 r13 v10 v11 r14 v12 v13 r15 v14 w15 r16 x122 x123 h3 h4 r17 r18 r19 r20 v18 r21 r22 r23 v19 h2 g1 f21)) [0, 2] (by decide) rfl
                    have hKc := hK.sub (tys' := [(g1, .int)]) [1] rfl
                    have hFc := va_free (wc := (wd_5013416a h0 v0 r0 v1 v2 v3 v4 r1 r2 r3 r4 r5 r6 r7 v5 v6 r8 r9 r10 r11 v7 h1 r12 v8 v9 h2 r13 v10 v11 r14 v12 v13 r15 v14 w15 r16 x122 x123 h3 h4 r17 r18 r19 r20 v18 r21 r22 r23 v19 h2 g1 f21)) hD hS hA [0, 2] rfl
                    refine va_calli (va_runV (As := [.int 4, .int 0]) (rest := [.int t142, .int x121, .ref h4]) ⟨hx, hb, hml, hown, hts⟩ (k_X12_of_3 l dC dI h0 h2 v0 r0 v1 v2 v3 v4 r1 r2 r3 r4 r5 r6 r7 v5 v6 r8 r9 r10 r11 v7 h1 r12 v8 v9 r13 v10 v11 r14 v12 v13 r15 v14 w15 r16 x122 x123 h3 h4 r17 r18 r19 r20 v18 r21 r22 r23 v19 g1 f21 4 ⟨i_v1a, i_v1b⟩ ⟨i_v5a, i_v5b⟩ ⟨i_v6a, i_v6b⟩ ⟨i_v7a, i_v7b⟩ ⟨i_v8a, i_v8b⟩ ⟨i_v9a, i_v9b⟩ ⟨i_v10a, i_v10b⟩ ⟨i_v14a, i_v14b⟩ ⟨i_v18a, i_v18b⟩ ⟨i_v19a, i_v19b⟩ ⟨by decide, by decide⟩ ia_f21.1 H.size) (cwV 2 hts g_X12_tryShelf_4_2 rfl rfl rfl (by decide +kernel) ⟨Nat.le_of_ble_eq_true rfl, Nat.le_of_ble_eq_true rfl⟩) (pv_PV12 hPc hKc hDc (q0 := 0) rfl) rfl rfl hl.1 rfl (lv_room (Nat.le_of_ble_eq_true rfl)) dX12_tryShelf_134 ⟨Nat.le_of_ble_eq_true rfl, Nat.le_of_ble_eq_true rfl⟩) hS (fun q _ h => hFc q h) hFc (fun ra143 u t H1 locs ht hvm hwra143 hB hz1 hk1 hS => ?_)
                    try rw [hwra143] at hB
                    have hkra143_0 : ((4 : Int32)).toInt = 4 := by decide
                    obtain ⟨pt0_ra143, pt1_ra143, pt2_ra143, hP1, hK1, hD1⟩ := hB
                    rw [ht] at hP1
                    obtain ⟨hP2, hD2⟩ := va_join (wr := (wd_20b67a68 h1 g0 f20 h3 g2 fn124 h4 g3 fn125)) (w1 := (wd_5013416a h0 v0 r0 v1 v2 v3 v4 r1 r2 r3 r4 r5 r6 r7 v5 v6 r8 r9 r10 r11 v7 h1 r12 v8 v9 h2 r13 v10 v11 r14 v12 v13 r15 v14 w15 r16 x122 x123 h3 h4 r17 r18 r19 r20 v18 r21 r22 r23 v19 h2 g1 f21)) hP hD [0, 2] [1, 3, 4] rfl rfl (by decide) (by decide) hk1 hFc hP1 hD1
                    clear hP hD hPc hDc hKc hFc hP1 hK1 hD1 hk1 hz1
                    generalize H1 = H at hP2 hS ⊢
                    have hP := hP2.sub (ws' := (wd_90cd99f9 h0 v0 r0 v1 v2 v3 v4 r1 r2 r3 r4 r5 r6 r7 v5 v6 r8 r9 r10 r11 v7 h1 r12 v8 v9 h2 r13 v10 v11 r14 v12 v13 r15 v14 w15 r16 x122 x123 h3 h4 r17 r18 r19 r20 v18 r21 r22 r23 v19 h1 g0 f20 h2 g1 f21 h3 g2 fn124 h4 g3 fn125)) [3, 0, 4, 1, 2] rfl
                    have hD := hD2.sub (ws' := (wd_90cd99f9 h0 v0 r0 v1 v2 v3 v4 r1 r2 r3 r4 r5 r6 r7 v5 v6 r8 r9 r10 r11 v7 h1 r12 v8 v9 h2 r13 v10 v11 r14 v12 v13 r15 v14 w15 r16 x122 x123 h3 h4 r17 r18 r19 r20 v18 r21 r22 r23 v19 h1 g0 f20 h2 g1 f21 h3 g2 fn124 h4 g3 fn125)) [3, 0, 4, 1, 2] (by decide) rfl
                    clear hP2 hD2
                    refine lv_iadd hx hb dX12_tryShelf_137 ?_
                    refine lv_topi (fun t144 et144 => ?_)
                    refine va_iast hx hb hK hP hD hS 4 3 rfl rfl (vp_in_iff.mpr ⟨by omega, by omega⟩) dX12_tryShelf_138 (fun H locs hP hD hS => ?_)
                    obtain ⟨fn145, efn145⟩ : ∃ g : Nat → Int32, g = upd fn125 (Int32.toNatClampNeg x121) t144 := ⟨_, rfl⟩
                    rw [← efn145] at hP hD
                    have hP : va_P (dC, dI) vwCl (wd_90cd99f9 h0 v0 r0 v1 v2 v3 v4 r1 r2 r3 r4 r5 r6 r7 v5 v6 r8 r9 r10 r11 v7 h1 r12 v8 v9 h2 r13 v10 v11 r14 v12 v13 r15 v14 w15 r16 x122 x123 h3 h4 r17 r18 r19 r20 v18 r21 r22 r23 v19 h1 g0 f20 h2 g1 f21 h3 g2 fn124 h4 g3 fn145) H := hP
                    have hD : va_D A (wd_90cd99f9 h0 v0 r0 v1 v2 v3 v4 r1 r2 r3 r4 r5 r6 r7 v5 v6 r8 r9 r10 r11 v7 h1 r12 v8 v9 h2 r13 v10 v11 r14 v12 v13 r15 v14 w15 r16 x122 x123 h3 h4 r17 r18 r19 r20 v18 r21 r22 r23 v19 h1 g0 f20 h2 g1 f21 h3 g2 fn124 h4 g3 fn145) := hD
                    refine lv_aload_n hx hb dX12_tryShelf_139 rfl (lv_at hl 2 rfl) ?_
                    refine va_get (D := (dC, dI)) (ci := 12) (v := .ref h3) (C := RX12) (T := TX12) (N := 48) hx hb hts (fun _ h => List.mem_cons_of_mem _ (List.mem_append_right _ h)) hown hK hP 0 rfl rfl 37 (by decide) (hts (.fieldLink RX12 74 "LeftArgumentsModel" "onShelf" "[I") (List.mem_cons_of_mem _ (List.mem_append_left _ (List.mem_of_getElem? (i := 15) rfl)))) (fun _ h9 => h9) rfl dX12_tryShelf_140 ?_
                    refine lv_iload_n hx hb dX12_tryShelf_143 rfl (lv_at hl 3 rfl) ?_
                    refine lv_iload hx hb dX12_tryShelf_144 (lv_at hl 0 rfl) ?_
                    refine va_iast hx hb hK hP hD hS 3 2 rfl rfl (pv_c (x := 4) (n := 8) (by decide)) dX12_tryShelf_146 (fun H locs hP hD hS => ?_)
                    obtain ⟨fn146, efn146⟩ : ∃ g : Nat → Int32, g = upd fn124 (Int32.toNatClampNeg 4) x121 := ⟨_, rfl⟩
                    rw [← efn146] at hP hD
                    have hP : va_P (dC, dI) vwCl (wd_90cd99f9 h0 v0 r0 v1 v2 v3 v4 r1 r2 r3 r4 r5 r6 r7 v5 v6 r8 r9 r10 r11 v7 h1 r12 v8 v9 h2 r13 v10 v11 r14 v12 v13 r15 v14 w15 r16 x122 x123 h3 h4 r17 r18 r19 r20 v18 r21 r22 r23 v19 h1 g0 f20 h2 g1 f21 h3 g2 fn146 h4 g3 fn145) H := hP
                    have hD : va_D A (wd_90cd99f9 h0 v0 r0 v1 v2 v3 v4 r1 r2 r3 r4 r5 r6 r7 v5 v6 r8 r9 r10 r11 v7 h1 r12 v8 v9 h2 r13 v10 v11 r14 v12 v13 r15 v14 w15 r16 x122 x123 h3 h4 r17 r18 r19 r20 v18 r21 r22 r23 v19 h1 g0 f20 h2 g1 f21 h3 g2 fn146 h4 g3 fn145) := hD
                    refine lv_aload_n hx hb dX12_tryShelf_147 rfl (lv_at hl 2 rfl) ?_
                    refine lv_iload_n hx hb dX12_tryShelf_148 rfl (lv_at hl 3 rfl) ?_
                    refine lv_iconst (v := 1) hx hb dX12_tryShelf_149 (by decide) ?_
                    refine lv_iadd hx hb dX12_tryShelf_150 ?_
                    refine lv_topi (fun tv147 etv147 => ?_)
                    obtain rfl : tv147 = (5 : Int32) := etv147.trans (by first | rfl | decide)
                    refine lv_bipush (v := 10) hx hb dX12_tryShelf_151 (by decide) ?_
                    refine lv_iload_n hx hb dX12_tryShelf_153 rfl (lv_at hl 4 rfl) ?_
                    refine lv_imul hx hb dX12_tryShelf_154 ?_
                    refine lv_topi (fun t148 et148 => ?_)
                    refine lv_iload hx hb dX12_tryShelf_155 (lv_at hl 0 rfl) ?_
                    refine lv_iadd hx hb dX12_tryShelf_157 ?_
                    refine lv_topi (fun t149 et149 => ?_)
                    refine lv_iload_n hx hb dX12_tryShelf_158 rfl (lv_at hl 5 rfl) ?_
                    refine lv_aload_n hx hb dX12_tryShelf_159 rfl (lv_at hl 2 rfl) ?_
                    refine va_get (D := (dC, dI)) (ci := 12) (v := .ref h4) (C := RX12) (T := TX12) (N := 48) hx hb hts (fun _ h => List.mem_cons_of_mem _ (List.mem_append_right _ h)) hown hK hP 0 rfl rfl 38 (by decide) (hts (.fieldLink RX12 77 "LeftArgumentsModel" "room" "[I") (List.mem_cons_of_mem _ (List.mem_append_left _ (List.mem_of_getElem? (i := 31) rfl)))) (fun _ h9 => h9) rfl dX12_tryShelf_160 ?_
                    refine lv_iload hx hb dX12_tryShelf_163 (lv_at hl 0 rfl) ?_
                    refine va_iald hx hb hK hP 4 3 rfl rfl (vp_in_iff.mpr ⟨by omega, by omega⟩) dX12_tryShelf_165 ?_
                    refine lv_topi (fun t150 et150 => ?_)
                    refine lv_aload_n hx hb dX12_tryShelf_166 rfl (lv_at hl 2 rfl) ?_
                    refine lv_iload_n hx hb dX12_tryShelf_167 rfl (lv_at hl 3 rfl) ?_
                    refine lv_iconst (v := 0) hx hb dX12_tryShelf_168 (by decide) ?_
                    have hPc := hP.sub (ws' := (wd_5013416a h0 v0 r0 v1 v2 v3 v4 r1 r2 r3 r4 r5 r6 r7 v5 v6 r8 r9 r10 r11 v7 h1 r12 v8 v9 h2 r13 v10 v11 r14 v12 v13 r15 v14 w15 r16 x122 x123 h3 h4 r17 r18 r19 r20 v18 r21 r22 r23 v19 h2 g1 f21)) [0, 2] rfl
                    have hDc := hD.sub (ws' := (wd_5013416a h0 v0 r0 v1 v2 v3 v4 r1 r2 r3 r4 r5 r6 r7 v5 v6 r8 r9 r10 r11 v7 h1 r12 v8 v9 h2 r13 v10 v11 r14 v12 v13 r15 v14 w15 r16 x122 x123 h3 h4 r17 r18 r19 r20 v18 r21 r22 r23 v19 h2 g1 f21)) [0, 2] (by decide) rfl
                    have hKc := hK.sub (tys' := [(g1, .int)]) [1] rfl
                    have hFc := va_free (wc := (wd_5013416a h0 v0 r0 v1 v2 v3 v4 r1 r2 r3 r4 r5 r6 r7 v5 v6 r8 r9 r10 r11 v7 h1 r12 v8 v9 h2 r13 v10 v11 r14 v12 v13 r15 v14 w15 r16 x122 x123 h3 h4 r17 r18 r19 r20 v18 r21 r22 r23 v19 h2 g1 f21)) hD hS hA [0, 2] rfl
                    refine va_calli (va_runV (As := [.int 4, .int 0]) (rest := [.int t150, .int v25, .int t149, .int 5, .ref h0]) ⟨hx, hb, hml, hown, hts⟩ (k_X12_of_3 l dC dI h0 h2 v0 r0 v1 v2 v3 v4 r1 r2 r3 r4 r5 r6 r7 v5 v6 r8 r9 r10 r11 v7 h1 r12 v8 v9 r13 v10 v11 r14 v12 v13 r15 v14 w15 r16 x122 x123 h3 h4 r17 r18 r19 r20 v18 r21 r22 r23 v19 g1 f21 4 ⟨i_v1a, i_v1b⟩ ⟨i_v5a, i_v5b⟩ ⟨i_v6a, i_v6b⟩ ⟨i_v7a, i_v7b⟩ ⟨i_v8a, i_v8b⟩ ⟨i_v9a, i_v9b⟩ ⟨i_v10a, i_v10b⟩ ⟨i_v14a, i_v14b⟩ ⟨i_v18a, i_v18b⟩ ⟨i_v19a, i_v19b⟩ ⟨by decide, by decide⟩ ia_f21.1 H.size) (cwV 2 hts g_X12_tryShelf_4_2 rfl rfl rfl (by decide +kernel) ⟨Nat.le_of_ble_eq_true rfl, Nat.le_of_ble_eq_true rfl⟩) (pv_PV12 hPc hKc hDc (q0 := 0) rfl) rfl rfl hl.1 rfl (lv_room (Nat.le_of_ble_eq_true rfl)) dX12_tryShelf_169 ⟨Nat.le_of_ble_eq_true rfl, Nat.le_of_ble_eq_true rfl⟩) hS (fun q _ h => hFc q h) hFc (fun ra151 u t H1 locs ht hvm hwra151 hB hz1 hk1 hS => ?_)
                    try rw [hwra151] at hB
                    have hkra151_0 : ((4 : Int32)).toInt = 4 := by decide
                    obtain ⟨pt0_ra151, pt1_ra151, pt2_ra151, hP1, hK1, hD1⟩ := hB
                    rw [ht] at hP1
                    obtain ⟨hP2, hD2⟩ := va_join (wr := (wd_20b67a68 h1 g0 f20 h3 g2 fn146 h4 g3 fn145)) (w1 := (wd_5013416a h0 v0 r0 v1 v2 v3 v4 r1 r2 r3 r4 r5 r6 r7 v5 v6 r8 r9 r10 r11 v7 h1 r12 v8 v9 h2 r13 v10 v11 r14 v12 v13 r15 v14 w15 r16 x122 x123 h3 h4 r17 r18 r19 r20 v18 r21 r22 r23 v19 h2 g1 f21)) hP hD [0, 2] [1, 3, 4] rfl rfl (by decide) (by decide) hk1 hFc hP1 hD1
                    clear hP hD hPc hDc hKc hFc hP1 hK1 hD1 hk1 hz1
                    generalize H1 = H at hP2 hS ⊢
                    have hP := hP2.sub (ws' := (wd_90cd99f9 h0 v0 r0 v1 v2 v3 v4 r1 r2 r3 r4 r5 r6 r7 v5 v6 r8 r9 r10 r11 v7 h1 r12 v8 v9 h2 r13 v10 v11 r14 v12 v13 r15 v14 w15 r16 x122 x123 h3 h4 r17 r18 r19 r20 v18 r21 r22 r23 v19 h1 g0 f20 h2 g1 f21 h3 g2 fn146 h4 g3 fn145)) [3, 0, 4, 1, 2] rfl
                    have hD := hD2.sub (ws' := (wd_90cd99f9 h0 v0 r0 v1 v2 v3 v4 r1 r2 r3 r4 r5 r6 r7 v5 v6 r8 r9 r10 r11 v7 h1 r12 v8 v9 h2 r13 v10 v11 r14 v12 v13 r15 v14 w15 r16 x122 x123 h3 h4 r17 r18 r19 r20 v18 r21 r22 r23 v19 h1 g0 f20 h2 g1 f21 h3 g2 fn146 h4 g3 fn145)) [3, 0, 4, 1, 2] (by decide) rfl
                    clear hP2 hD2
                    have hJ153 : ∀ (x152 : Int32) (H : Heap) (locs : List Loc) (ls : Array Slot), 0 ≤ x152.toInt → x152.toInt ≤ 1 → va_P (dC, dI) vwCl (wd_90cd99f9 h0 v0 r0 v1 v2 v3 v4 r1 r2 r3 r4 r5 r6 r7 v5 v6 r8 r9 r10 r11 v7 h1 r12 v8 v9 h2 r13 v10 v11 r14 v12 v13 r15 v14 w15 r16 x122 x123 h3 h4 r17 r18 r19 r20 v18 r21 r22 r23 v19 h1 g0 f20 h2 g1 f21 h3 g2 fn146 h4 g3 fn145) H → va_D A (wd_90cd99f9 h0 v0 r0 v1 v2 v3 v4 r1 r2 r3 r4 r5 r6 r7 v5 v6 r8 r9 r10 r11 v7 h1 r12 v8 v9 h2 r13 v10 v11 r14 v12 v13 r15 v14 w15 r16 x122 x123 h3 h4 r17 r18 r19 r20 v18 r21 r22 r23 v19 h1 g0 f20 h2 g1 f21 h3 g2 fn146 h4 g3 fn145) → va_S A s.heap H locs → lv_has ls 7 [(6, .int x121), (5, .int x104), (0, .ref h0), (1, .int 4), (2, .int v24), (3, .int v25), (4, .int v26)] → W p l e ({ frames := 7, cells := 0, slots := 0, locals := 166 }) s m ([.ref h0, .int 4, .int v24, .int v25, .int v26] : List Value).toArray below meth c H locs 0 0 Q (F0 m 180 ls [.int x152, .int v25, .int t149, .int 5, .ref h0]) := by
                      intro x152 H locs ls qa_x152 qb_x152 hP hD hS hl
                      refine lv_iadd hx hb dX12_tryShelf_180 ?_
                      refine lv_topi (fun t154 et154 => ?_)
                      have r5t154v25 := Int32.le_toInt v25; have r6t154v25 := Int32.toInt_lt v25
                      have gt154 : t154.toInt = v25.toInt + x152.toInt := pv_add (a := v25.toInt) (b := x152.toInt) et154 rfl rfl (by omega) (by omega)
                      refine lv_iload hx hb dX12_tryShelf_181 (lv_at hl 6 rfl) ?_
                      have hPc := hP.sub (ws' := (wd_90cd99f9 h0 v0 r0 v1 v2 v3 v4 r1 r2 r3 r4 r5 r6 r7 v5 v6 r8 r9 r10 r11 v7 h1 r12 v8 v9 h2 r13 v10 v11 r14 v12 v13 r15 v14 w15 r16 x122 x123 h3 h4 r17 r18 r19 r20 v18 r21 r22 r23 v19 h1 g0 f20 h2 g1 f21 h3 g2 fn146 h4 g3 fn145)) [0, 1, 2, 3, 4] rfl
                      have hDc := hD.sub (ws' := (wd_90cd99f9 h0 v0 r0 v1 v2 v3 v4 r1 r2 r3 r4 r5 r6 r7 v5 v6 r8 r9 r10 r11 v7 h1 r12 v8 v9 h2 r13 v10 v11 r14 v12 v13 r15 v14 w15 r16 x122 x123 h3 h4 r17 r18 r19 r20 v18 r21 r22 r23 v19 h1 g0 f20 h2 g1 f21 h3 g2 fn146 h4 g3 fn145)) [0, 1, 2, 3, 4] (by decide) rfl
                      have hKc := hK.sub (tys' := [(g0, .int), (g1, .int), (g2, .int), (g3, .int)]) [0, 1, 2, 3] rfl
                      have hFc := va_free (wc := (wd_90cd99f9 h0 v0 r0 v1 v2 v3 v4 r1 r2 r3 r4 r5 r6 r7 v5 v6 r8 r9 r10 r11 v7 h1 r12 v8 v9 h2 r13 v10 v11 r14 v12 v13 r15 v14 w15 r16 x122 x123 h3 h4 r17 r18 r19 r20 v18 r21 r22 r23 v19 h1 g0 f20 h2 g1 f21 h3 g2 fn146 h4 g3 fn145)) hD hS hA [0, 1, 2, 3, 4] rfl
                      refine va_callv (va_runV (As := [.int 5, .int t149, .int t154, .int v26]) (rest := []) ⟨hx, hb, hml, hown, hts⟩ (k_X12_tryShelf_3 l dC dI h0 h1 h2 h3 h4 v0 r0 v1 v2 v3 v4 r1 r2 r3 r4 r5 r6 r7 v5 v6 r8 r9 r10 r11 v7 r12 v8 v9 r13 v10 v11 r14 v12 v13 r15 v14 w15 r16 x122 x123 r17 r18 r19 r20 v18 r21 r22 r23 v19 g0 f20 g1 f21 g2 fn146 g3 fn145 t149 t154 v26 ⟨i_v1a, i_v1b⟩ ⟨i_v5a, i_v5b⟩ ⟨i_v6a, i_v6b⟩ ⟨i_v7a, i_v7b⟩ ⟨i_v8a, i_v8b⟩ ⟨i_v9a, i_v9b⟩ ⟨i_v10a, i_v10b⟩ ⟨i_v14a, i_v14b⟩ ⟨i_v18a, i_v18b⟩ ⟨i_v19a, i_v19b⟩ ⟨i_v26a, i_v26b⟩ ia_f20 ia_f21 H.size) (cwV 4 hts g_X12_tryShelf_4_4 rfl rfl rfl (by decide +kernel) ⟨Nat.le_of_ble_eq_true rfl, Nat.le_of_ble_eq_true rfl⟩) (pv_PV12 hPc hKc hDc (q0 := 0) rfl) rfl rfl hl.1 rfl (lv_room (Nat.le_of_ble_eq_true rfl)) dX12_tryShelf_183 ⟨Nat.le_of_ble_eq_true rfl, Nat.le_of_ble_eq_true rfl⟩) hS (fun q _ h => hFc q h) hFc (fun u t H1 locs ht hvm hwra155 hB hz1 hk1 hS => ?_)
                      obtain ⟨x156, x157, fn158, fn159, hP1, hK1, hD1⟩ := hB
                      rw [ht] at hP1
                      obtain ⟨hP2, hD2⟩ := va_join (wr := []) (w1 := (wd_90cd99f9 h0 v0 r0 v1 v2 v3 v4 r1 r2 r3 r4 r5 r6 r7 v5 v6 r8 r9 r10 r11 v7 h1 r12 v8 v9 h2 r13 v10 v11 r14 v12 v13 r15 v14 w15 r16 x156 x157 h3 h4 r17 r18 r19 r20 v18 r21 r22 r23 v19 h1 g0 f20 h2 g1 f21 h3 g2 fn158 h4 g3 fn159)) hP hD [0, 1, 2, 3, 4] [] rfl rfl (by decide) (by decide) hk1 hFc hP1 hD1
                      clear hP hD hPc hDc hKc hFc hP1 hK1 hD1 hk1 hz1
                      generalize H1 = H at hP2 hS ⊢
                      have hP : va_P (dC, dI) vwCl (wd_90cd99f9 h0 v0 r0 v1 v2 v3 v4 r1 r2 r3 r4 r5 r6 r7 v5 v6 r8 r9 r10 r11 v7 h1 r12 v8 v9 h2 r13 v10 v11 r14 v12 v13 r15 v14 w15 r16 x156 x157 h3 h4 r17 r18 r19 r20 v18 r21 r22 r23 v19 h1 g0 f20 h2 g1 f21 h3 g2 fn158 h4 g3 fn159) H := hP2
                      have hD : va_D A (wd_90cd99f9 h0 v0 r0 v1 v2 v3 v4 r1 r2 r3 r4 r5 r6 r7 v5 v6 r8 r9 r10 r11 v7 h1 r12 v8 v9 h2 r13 v10 v11 r14 v12 v13 r15 v14 w15 r16 x156 x157 h3 h4 r17 r18 r19 r20 v18 r21 r22 r23 v19 h1 g0 f20 h2 g1 f21 h3 g2 fn158 h4 g3 fn159) := hD2
                      clear hP2 hD2
                      refine lv_aload_n hx hb dX12_tryShelf_186 rfl (lv_at hl 2 rfl) ?_
                      refine va_get (D := (dC, dI)) (ci := 12) (v := .ref h4) (C := RX12) (T := TX12) (N := 48) hx hb hts (fun _ h => List.mem_cons_of_mem _ (List.mem_append_right _ h)) hown hK hP 0 rfl rfl 38 (by decide) (hts (.fieldLink RX12 77 "LeftArgumentsModel" "room" "[I") (List.mem_cons_of_mem _ (List.mem_append_left _ (List.mem_of_getElem? (i := 31) rfl)))) (fun _ h9 => h9) rfl dX12_tryShelf_187 ?_
                      refine lv_iload hx hb dX12_tryShelf_190 (lv_at hl 0 rfl) ?_
                      refine lv_dup2_11 hx hb dX12_tryShelf_192 rfl rfl ?_
                      refine va_iald hx hb hK hP 4 3 rfl rfl (vp_in_iff.mpr ⟨by omega, by omega⟩) dX12_tryShelf_193 ?_
                      refine lv_topi (fun t160 et160 => ?_)
                      refine lv_aload_n hx hb dX12_tryShelf_194 rfl (lv_at hl 2 rfl) ?_
                      refine lv_iload_n hx hb dX12_tryShelf_195 rfl (lv_at hl 3 rfl) ?_
                      refine lv_iconst (v := 0) hx hb dX12_tryShelf_196 (by decide) ?_
                      have hPc := hP.sub (ws' := (wd_5013416a h0 v0 r0 v1 v2 v3 v4 r1 r2 r3 r4 r5 r6 r7 v5 v6 r8 r9 r10 r11 v7 h1 r12 v8 v9 h2 r13 v10 v11 r14 v12 v13 r15 v14 w15 r16 x156 x157 h3 h4 r17 r18 r19 r20 v18 r21 r22 r23 v19 h2 g1 f21)) [0, 2] rfl
                      have hDc := hD.sub (ws' := (wd_5013416a h0 v0 r0 v1 v2 v3 v4 r1 r2 r3 r4 r5 r6 r7 v5 v6 r8 r9 r10 r11 v7 h1 r12 v8 v9 h2 r13 v10 v11 r14 v12 v13 r15 v14 w15 r16 x156 x157 h3 h4 r17 r18 r19 r20 v18 r21 r22 r23 v19 h2 g1 f21)) [0, 2] (by decide) rfl
                      have hKc := hK.sub (tys' := [(g1, .int)]) [1] rfl
                      have hFc := va_free (wc := (wd_5013416a h0 v0 r0 v1 v2 v3 v4 r1 r2 r3 r4 r5 r6 r7 v5 v6 r8 r9 r10 r11 v7 h1 r12 v8 v9 h2 r13 v10 v11 r14 v12 v13 r15 v14 w15 r16 x156 x157 h3 h4 r17 r18 r19 r20 v18 r21 r22 r23 v19 h2 g1 f21)) hD hS hA [0, 2] rfl
                      refine va_calli (va_runV (As := [.int 4, .int 0]) (rest := [.int t160, .int x121, .ref h4]) ⟨hx, hb, hml, hown, hts⟩ (k_X12_of_3 l dC dI h0 h2 v0 r0 v1 v2 v3 v4 r1 r2 r3 r4 r5 r6 r7 v5 v6 r8 r9 r10 r11 v7 h1 r12 v8 v9 r13 v10 v11 r14 v12 v13 r15 v14 w15 r16 x156 x157 h3 h4 r17 r18 r19 r20 v18 r21 r22 r23 v19 g1 f21 4 ⟨i_v1a, i_v1b⟩ ⟨i_v5a, i_v5b⟩ ⟨i_v6a, i_v6b⟩ ⟨i_v7a, i_v7b⟩ ⟨i_v8a, i_v8b⟩ ⟨i_v9a, i_v9b⟩ ⟨i_v10a, i_v10b⟩ ⟨i_v14a, i_v14b⟩ ⟨i_v18a, i_v18b⟩ ⟨i_v19a, i_v19b⟩ ⟨by decide, by decide⟩ ia_f21.1 H.size) (cwV 2 hts g_X12_tryShelf_4_2 rfl rfl rfl (by decide +kernel) ⟨Nat.le_of_ble_eq_true rfl, Nat.le_of_ble_eq_true rfl⟩) (pv_PV12 hPc hKc hDc (q0 := 0) rfl) rfl rfl hl.1 rfl (lv_room (Nat.le_of_ble_eq_true rfl)) dX12_tryShelf_197 ⟨Nat.le_of_ble_eq_true rfl, Nat.le_of_ble_eq_true rfl⟩) hS (fun q _ h => hFc q h) hFc (fun ra161 u t H1 locs ht hvm hwra161 hB hz1 hk1 hS => ?_)
                      try rw [hwra161] at hB
                      have hkra161_0 : ((4 : Int32)).toInt = 4 := by decide
                      obtain ⟨pt0_ra161, pt1_ra161, pt2_ra161, hP1, hK1, hD1⟩ := hB
                      rw [ht] at hP1
                      obtain ⟨hP2, hD2⟩ := va_join (wr := (wd_20b67a68 h1 g0 f20 h3 g2 fn158 h4 g3 fn159)) (w1 := (wd_5013416a h0 v0 r0 v1 v2 v3 v4 r1 r2 r3 r4 r5 r6 r7 v5 v6 r8 r9 r10 r11 v7 h1 r12 v8 v9 h2 r13 v10 v11 r14 v12 v13 r15 v14 w15 r16 x156 x157 h3 h4 r17 r18 r19 r20 v18 r21 r22 r23 v19 h2 g1 f21)) hP hD [0, 2] [1, 3, 4] rfl rfl (by decide) (by decide) hk1 hFc hP1 hD1
                      clear hP hD hPc hDc hKc hFc hP1 hK1 hD1 hk1 hz1
                      generalize H1 = H at hP2 hS ⊢
                      have hP := hP2.sub (ws' := (wd_90cd99f9 h0 v0 r0 v1 v2 v3 v4 r1 r2 r3 r4 r5 r6 r7 v5 v6 r8 r9 r10 r11 v7 h1 r12 v8 v9 h2 r13 v10 v11 r14 v12 v13 r15 v14 w15 r16 x156 x157 h3 h4 r17 r18 r19 r20 v18 r21 r22 r23 v19 h1 g0 f20 h2 g1 f21 h3 g2 fn158 h4 g3 fn159)) [3, 0, 4, 1, 2] rfl
                      have hD := hD2.sub (ws' := (wd_90cd99f9 h0 v0 r0 v1 v2 v3 v4 r1 r2 r3 r4 r5 r6 r7 v5 v6 r8 r9 r10 r11 v7 h1 r12 v8 v9 h2 r13 v10 v11 r14 v12 v13 r15 v14 w15 r16 x156 x157 h3 h4 r17 r18 r19 r20 v18 r21 r22 r23 v19 h1 g0 f20 h2 g1 f21 h3 g2 fn158 h4 g3 fn159)) [3, 0, 4, 1, 2] (by decide) rfl
                      clear hP2 hD2
                      refine lv_isub hx hb dX12_tryShelf_200 ?_
                      refine lv_topi (fun t162 et162 => ?_)
                      refine va_iast hx hb hK hP hD hS 4 3 rfl rfl (vp_in_iff.mpr ⟨by omega, by omega⟩) dX12_tryShelf_201 (fun H locs hP hD hS => ?_)
                      obtain ⟨fn163, efn163⟩ : ∃ g : Nat → Int32, g = upd fn159 (Int32.toNatClampNeg x121) t162 := ⟨_, rfl⟩
                      rw [← efn163] at hP hD
                      have hP : va_P (dC, dI) vwCl (wd_90cd99f9 h0 v0 r0 v1 v2 v3 v4 r1 r2 r3 r4 r5 r6 r7 v5 v6 r8 r9 r10 r11 v7 h1 r12 v8 v9 h2 r13 v10 v11 r14 v12 v13 r15 v14 w15 r16 x156 x157 h3 h4 r17 r18 r19 r20 v18 r21 r22 r23 v19 h1 g0 f20 h2 g1 f21 h3 g2 fn158 h4 g3 fn163) H := hP
                      have hD : va_D A (wd_90cd99f9 h0 v0 r0 v1 v2 v3 v4 r1 r2 r3 r4 r5 r6 r7 v5 v6 r8 r9 r10 r11 v7 h1 r12 v8 v9 h2 r13 v10 v11 r14 v12 v13 r15 v14 w15 r16 x156 x157 h3 h4 r17 r18 r19 r20 v18 r21 r22 r23 v19 h1 g0 f20 h2 g1 f21 h3 g2 fn158 h4 g3 fn163) := hD
                      exact hJ137 x156 x157 fn158 fn163 H locs ls hP hD hS (lv_sub hl [0, 1, 2, 3, 4, 5, 6] rfl)
                    refine lv_icmp_ne (tgt := 179) hx hb dX12_tryShelf_172 (by decide) (fun c164 => ?_) (fun c164 => ?_)
                    · skip
                      have fc164 : ¬ (t150.toInt = ra151.toInt) := fun h9 => c164 (Int32.toInt_inj.mp h9)
                      have r1c164 := Int32.toInt_lt t150
                      have r2c164 := Int32.toInt_lt ra151
                      have r3c164 := Int32.le_toInt t150
                      have r4c164 := Int32.le_toInt ra151
                      refine lv_iconst (v := 0) hx hb dX12_tryShelf_179 (by decide) ?_
                      exact hJ153 0 H locs ls (by decide) (by decide) hP hD hS (lv_sub hl [0, 1, 2, 3, 4, 5, 6] rfl)
                    · skip
                      have fc164 : t150.toInt = ra151.toInt := congrArg Int32.toInt c164
                      have r1c164 := Int32.toInt_lt t150
                      have r2c164 := Int32.toInt_lt ra151
                      have r3c164 := Int32.le_toInt t150
                      have r4c164 := Int32.le_toInt ra151
                      refine lv_iconst (v := 1) hx hb dX12_tryShelf_175 (by decide) ?_
                      refine lv_goto (tgt := 180) hx hb dX12_tryShelf_176 (by decide) ?_
                      exact hJ153 1 H locs ls (by decide) (by decide) hP hD hS (lv_sub hl [0, 1, 2, 3, 4, 5, 6] rfl)
                · skip
                  have fc139 : ¬ (v26.toInt = 0) := fun h9 => c139 (Int32.toInt_inj.mp h9)
                  refine lv_aload_n hx hb dX12_tryShelf_87 rfl (lv_at hl 2 rfl) ?_
                  refine va_get (D := (dC, dI)) (ci := 12) (v := .ref h4) (C := RX12) (T := TX12) (N := 48) hx hb hts (fun _ h => List.mem_cons_of_mem _ (List.mem_append_right _ h)) hown hK hP 0 rfl rfl 38 (by decide) (hts (.fieldLink RX12 77 "LeftArgumentsModel" "room" "[I") (List.mem_cons_of_mem _ (List.mem_append_left _ (List.mem_of_getElem? (i := 31) rfl)))) (fun _ h9 => h9) rfl dX12_tryShelf_88 ?_
                  refine lv_iload hx hb dX12_tryShelf_91 (lv_at hl 0 rfl) ?_
                  refine va_iald hx hb hK hP 4 3 rfl rfl (vp_in_iff.mpr ⟨by omega, by omega⟩) dX12_tryShelf_93 ?_
                  refine lv_topi (fun t165 et165 => ?_)
                  refine lv_aload_n hx hb dX12_tryShelf_94 rfl (lv_at hl 2 rfl) ?_
                  refine lv_iload_n hx hb dX12_tryShelf_95 rfl (lv_at hl 3 rfl) ?_
                  refine lv_iconst (v := 0) hx hb dX12_tryShelf_96 (by decide) ?_
                  have hPc := hP.sub (ws' := (wd_5013416a h0 v0 r0 v1 v2 v3 v4 r1 r2 r3 r4 r5 r6 r7 v5 v6 r8 r9 r10 r11 v7 h1 r12 v8 v9 h2 r13 v10 v11 r14 v12 v13 r15 v14 w15 r16 x122 x123 h3 h4 r17 r18 r19 r20 v18 r21 r22 r23 v19 h2 g1 f21)) [0, 2] rfl
                  have hDc := hD.sub (ws' := (wd_5013416a h0 v0 r0 v1 v2 v3 v4 r1 r2 r3 r4 r5 r6 r7 v5 v6 r8 r9 r10 r11 v7 h1 r12 v8 v9 h2 r13 v10 v11 r14 v12 v13 r15 v14 w15 r16 x122 x123 h3 h4 r17 r18 r19 r20 v18 r21 r22 r23 v19 h2 g1 f21)) [0, 2] (by decide) rfl
                  have hKc := hK.sub (tys' := [(g1, .int)]) [1] rfl
                  have hFc := va_free (wc := (wd_5013416a h0 v0 r0 v1 v2 v3 v4 r1 r2 r3 r4 r5 r6 r7 v5 v6 r8 r9 r10 r11 v7 h1 r12 v8 v9 h2 r13 v10 v11 r14 v12 v13 r15 v14 w15 r16 x122 x123 h3 h4 r17 r18 r19 r20 v18 r21 r22 r23 v19 h2 g1 f21)) hD hS hA [0, 2] rfl
                  refine va_calli (va_runV (As := [.int 4, .int 0]) (rest := [.int t165]) ⟨hx, hb, hml, hown, hts⟩ (k_X12_of_3 l dC dI h0 h2 v0 r0 v1 v2 v3 v4 r1 r2 r3 r4 r5 r6 r7 v5 v6 r8 r9 r10 r11 v7 h1 r12 v8 v9 r13 v10 v11 r14 v12 v13 r15 v14 w15 r16 x122 x123 h3 h4 r17 r18 r19 r20 v18 r21 r22 r23 v19 g1 f21 4 ⟨i_v1a, i_v1b⟩ ⟨i_v5a, i_v5b⟩ ⟨i_v6a, i_v6b⟩ ⟨i_v7a, i_v7b⟩ ⟨i_v8a, i_v8b⟩ ⟨i_v9a, i_v9b⟩ ⟨i_v10a, i_v10b⟩ ⟨i_v14a, i_v14b⟩ ⟨i_v18a, i_v18b⟩ ⟨i_v19a, i_v19b⟩ ⟨by decide, by decide⟩ ia_f21.1 H.size) (cwV 2 hts g_X12_tryShelf_4_2 rfl rfl rfl (by decide +kernel) ⟨Nat.le_of_ble_eq_true rfl, Nat.le_of_ble_eq_true rfl⟩) (pv_PV12 hPc hKc hDc (q0 := 0) rfl) rfl rfl hl.1 rfl (lv_room (Nat.le_of_ble_eq_true rfl)) dX12_tryShelf_97 ⟨Nat.le_of_ble_eq_true rfl, Nat.le_of_ble_eq_true rfl⟩) hS (fun q _ h => hFc q h) hFc (fun ra166 u t H1 locs ht hvm hwra166 hB hz1 hk1 hS => ?_)
                  try rw [hwra166] at hB
                  have hkra166_0 : ((4 : Int32)).toInt = 4 := by decide
                  obtain ⟨pt0_ra166, pt1_ra166, pt2_ra166, hP1, hK1, hD1⟩ := hB
                  rw [ht] at hP1
                  obtain ⟨hP2, hD2⟩ := va_join (wr := (wd_20b67a68 h1 g0 f20 h3 g2 fn124 h4 g3 fn125)) (w1 := (wd_5013416a h0 v0 r0 v1 v2 v3 v4 r1 r2 r3 r4 r5 r6 r7 v5 v6 r8 r9 r10 r11 v7 h1 r12 v8 v9 h2 r13 v10 v11 r14 v12 v13 r15 v14 w15 r16 x122 x123 h3 h4 r17 r18 r19 r20 v18 r21 r22 r23 v19 h2 g1 f21)) hP hD [0, 2] [1, 3, 4] rfl rfl (by decide) (by decide) hk1 hFc hP1 hD1
                  clear hP hD hPc hDc hKc hFc hP1 hK1 hD1 hk1 hz1
                  generalize H1 = H at hP2 hS ⊢
                  have hP := hP2.sub (ws' := (wd_90cd99f9 h0 v0 r0 v1 v2 v3 v4 r1 r2 r3 r4 r5 r6 r7 v5 v6 r8 r9 r10 r11 v7 h1 r12 v8 v9 h2 r13 v10 v11 r14 v12 v13 r15 v14 w15 r16 x122 x123 h3 h4 r17 r18 r19 r20 v18 r21 r22 r23 v19 h1 g0 f20 h2 g1 f21 h3 g2 fn124 h4 g3 fn125)) [3, 0, 4, 1, 2] rfl
                  have hD := hD2.sub (ws' := (wd_90cd99f9 h0 v0 r0 v1 v2 v3 v4 r1 r2 r3 r4 r5 r6 r7 v5 v6 r8 r9 r10 r11 v7 h1 r12 v8 v9 h2 r13 v10 v11 r14 v12 v13 r15 v14 w15 r16 x122 x123 h3 h4 r17 r18 r19 r20 v18 r21 r22 r23 v19 h1 g0 f20 h2 g1 f21 h3 g2 fn124 h4 g3 fn125)) [3, 0, 4, 1, 2] (by decide) rfl
                  clear hP2 hD2
                  refine lv_iadd hx hb dX12_tryShelf_100 ?_
                  refine lv_topi (fun t167 et167 => ?_)
                  refine lv_aload_n hx hb dX12_tryShelf_101 rfl (lv_at hl 2 rfl) ?_
                  refine va_get (D := (dC, dI)) (ci := 12) (v := .ref h1) (C := RX12) (T := TX12) (N := 48) hx hb hts (fun _ h => List.mem_cons_of_mem _ (List.mem_append_right _ h)) hown hK hP 0 rfl rfl 20 (by decide) (hts (.fieldLink RX12 46 "LeftArgumentsModel" "rule" "[I") (List.mem_cons_of_mem _ (List.mem_append_left _ (List.mem_of_getElem? (i := 37) rfl)))) (fun _ h9 => h9) rfl dX12_tryShelf_102 ?_
                  refine lv_iconst (v := 0) hx hb dX12_tryShelf_105 (by decide) ?_
                  refine va_iald hx hb hK hP 1 0 rfl rfl (pv_c (x := 0) (n := 4) (by decide)) dX12_tryShelf_106 ?_
                  refine lv_topi (fun t168 et168 => ?_)
                  have gat168 : 0 ≤ t168.toInt := by rw [et168]; exact ia_f20.2
                  refine lv_icmp_gt (tgt := 202) hx hb dX12_tryShelf_107 (by decide) (fun c169 => ?_) (fun c169 => ?_)
                  · skip
                    have fc169 : t168.toInt < t167.toInt := Int32.lt_iff_toInt_lt.mp c169
                    have r1c169 := Int32.toInt_lt t167
                    have r2c169 := Int32.toInt_lt t168
                    have r3c169 := Int32.le_toInt t167
                    have r4c169 := Int32.le_toInt t168
                    exact hJ137 x122 x123 fn124 fn125 H locs ls hP hD hS (lv_sub hl [0, 1, 2, 3, 4, 5, 6] rfl)
                  · skip
                    have fc169 : ¬ (t168.toInt < t167.toInt) := fun h9 => c169 (Int32.lt_iff_toInt_lt.mpr h9)
                    have r1c169 := Int32.toInt_lt t167
                    have r2c169 := Int32.toInt_lt t168
                    have r3c169 := Int32.le_toInt t167
                    have r4c169 := Int32.le_toInt t168
                    refine lv_goto (tgt := 123) hx hb dX12_tryShelf_110 (by decide) ?_
                    refine lv_aload_n hx hb dX12_tryShelf_123 rfl (lv_at hl 2 rfl) ?_
                    refine va_get (D := (dC, dI)) (ci := 12) (v := .ref h4) (C := RX12) (T := TX12) (N := 48) hx hb hts (fun _ h => List.mem_cons_of_mem _ (List.mem_append_right _ h)) hown hK hP 0 rfl rfl 38 (by decide) (hts (.fieldLink RX12 77 "LeftArgumentsModel" "room" "[I") (List.mem_cons_of_mem _ (List.mem_append_left _ (List.mem_of_getElem? (i := 31) rfl)))) (fun _ h9 => h9) rfl dX12_tryShelf_124 ?_
                    refine lv_iload hx hb dX12_tryShelf_127 (lv_at hl 0 rfl) ?_
                    refine lv_dup2_11 hx hb dX12_tryShelf_129 rfl rfl ?_
                    refine va_iald hx hb hK hP 4 3 rfl rfl (vp_in_iff.mpr ⟨by omega, by omega⟩) dX12_tryShelf_130 ?_
                    refine lv_topi (fun t170 et170 => ?_)
                    have gmt170 : t170.toInt = t165.toInt := by rw [et170, et165]
                    refine lv_aload_n hx hb dX12_tryShelf_131 rfl (lv_at hl 2 rfl) ?_
                    refine lv_iload_n hx hb dX12_tryShelf_132 rfl (lv_at hl 3 rfl) ?_
                    refine lv_iconst (v := 0) hx hb dX12_tryShelf_133 (by decide) ?_
                    have hPc := hP.sub (ws' := (wd_5013416a h0 v0 r0 v1 v2 v3 v4 r1 r2 r3 r4 r5 r6 r7 v5 v6 r8 r9 r10 r11 v7 h1 r12 v8 v9 h2 r13 v10 v11 r14 v12 v13 r15 v14 w15 r16 x122 x123 h3 h4 r17 r18 r19 r20 v18 r21 r22 r23 v19 h2 g1 f21)) [0, 2] rfl
                    have hDc := hD.sub (ws' := (wd_5013416a h0 v0 r0 v1 v2 v3 v4 r1 r2 r3 r4 r5 r6 r7 v5 v6 r8 r9 r10 r11 v7 h1 r12 v8 v9 h2 r13 v10 v11 r14 v12 v13 r15 v14 w15 r16 x122 x123 h3 h4 r17 r18 r19 r20 v18 r21 r22 r23 v19 h2 g1 f21)) [0, 2] (by decide) rfl
                    have hKc := hK.sub (tys' := [(g1, .int)]) [1] rfl
                    have hFc := va_free (wc := (wd_5013416a h0 v0 r0 v1 v2 v3 v4 r1 r2 r3 r4 r5 r6 r7 v5 v6 r8 r9 r10 r11 v7 h1 r12 v8 v9 h2 r13 v10 v11 r14 v12 v13 r15 v14 w15 r16 x122 x123 h3 h4 r17 r18 r19 r20 v18 r21 r22 r23 v19 h2 g1 f21)) hD hS hA [0, 2] rfl
                    refine va_calli (va_runV (As := [.int 4, .int 0]) (rest := [.int t170, .int x121, .ref h4]) ⟨hx, hb, hml, hown, hts⟩ (k_X12_of_3 l dC dI h0 h2 v0 r0 v1 v2 v3 v4 r1 r2 r3 r4 r5 r6 r7 v5 v6 r8 r9 r10 r11 v7 h1 r12 v8 v9 r13 v10 v11 r14 v12 v13 r15 v14 w15 r16 x122 x123 h3 h4 r17 r18 r19 r20 v18 r21 r22 r23 v19 g1 f21 4 ⟨i_v1a, i_v1b⟩ ⟨i_v5a, i_v5b⟩ ⟨i_v6a, i_v6b⟩ ⟨i_v7a, i_v7b⟩ ⟨i_v8a, i_v8b⟩ ⟨i_v9a, i_v9b⟩ ⟨i_v10a, i_v10b⟩ ⟨i_v14a, i_v14b⟩ ⟨i_v18a, i_v18b⟩ ⟨i_v19a, i_v19b⟩ ⟨by decide, by decide⟩ ia_f21.1 H.size) (cwV 2 hts g_X12_tryShelf_4_2 rfl rfl rfl (by decide +kernel) ⟨Nat.le_of_ble_eq_true rfl, Nat.le_of_ble_eq_true rfl⟩) (pv_PV12 hPc hKc hDc (q0 := 0) rfl) rfl rfl hl.1 rfl (lv_room (Nat.le_of_ble_eq_true rfl)) dX12_tryShelf_134 ⟨Nat.le_of_ble_eq_true rfl, Nat.le_of_ble_eq_true rfl⟩) hS (fun q _ h => hFc q h) hFc (fun ra171 u t H1 locs ht hvm hwra171 hB hz1 hk1 hS => ?_)
                    try rw [hwra171] at hB
                    have hkra171_0 : ((4 : Int32)).toInt = 4 := by decide
                    obtain ⟨pt0_ra171, pt1_ra171, pt2_ra171, hP1, hK1, hD1⟩ := hB
                    rw [ht] at hP1
                    obtain ⟨hP2, hD2⟩ := va_join (wr := (wd_20b67a68 h1 g0 f20 h3 g2 fn124 h4 g3 fn125)) (w1 := (wd_5013416a h0 v0 r0 v1 v2 v3 v4 r1 r2 r3 r4 r5 r6 r7 v5 v6 r8 r9 r10 r11 v7 h1 r12 v8 v9 h2 r13 v10 v11 r14 v12 v13 r15 v14 w15 r16 x122 x123 h3 h4 r17 r18 r19 r20 v18 r21 r22 r23 v19 h2 g1 f21)) hP hD [0, 2] [1, 3, 4] rfl rfl (by decide) (by decide) hk1 hFc hP1 hD1
                    clear hP hD hPc hDc hKc hFc hP1 hK1 hD1 hk1 hz1
                    generalize H1 = H at hP2 hS ⊢
                    have hP := hP2.sub (ws' := (wd_90cd99f9 h0 v0 r0 v1 v2 v3 v4 r1 r2 r3 r4 r5 r6 r7 v5 v6 r8 r9 r10 r11 v7 h1 r12 v8 v9 h2 r13 v10 v11 r14 v12 v13 r15 v14 w15 r16 x122 x123 h3 h4 r17 r18 r19 r20 v18 r21 r22 r23 v19 h1 g0 f20 h2 g1 f21 h3 g2 fn124 h4 g3 fn125)) [3, 0, 4, 1, 2] rfl
                    have hD := hD2.sub (ws' := (wd_90cd99f9 h0 v0 r0 v1 v2 v3 v4 r1 r2 r3 r4 r5 r6 r7 v5 v6 r8 r9 r10 r11 v7 h1 r12 v8 v9 h2 r13 v10 v11 r14 v12 v13 r15 v14 w15 r16 x122 x123 h3 h4 r17 r18 r19 r20 v18 r21 r22 r23 v19 h1 g0 f20 h2 g1 f21 h3 g2 fn124 h4 g3 fn125)) [3, 0, 4, 1, 2] (by decide) rfl
                    clear hP2 hD2
                    refine lv_iadd hx hb dX12_tryShelf_137 ?_
                    refine lv_topi (fun t172 et172 => ?_)
                    refine va_iast hx hb hK hP hD hS 4 3 rfl rfl (vp_in_iff.mpr ⟨by omega, by omega⟩) dX12_tryShelf_138 (fun H locs hP hD hS => ?_)
                    obtain ⟨fn173, efn173⟩ : ∃ g : Nat → Int32, g = upd fn125 (Int32.toNatClampNeg x121) t172 := ⟨_, rfl⟩
                    rw [← efn173] at hP hD
                    have hP : va_P (dC, dI) vwCl (wd_90cd99f9 h0 v0 r0 v1 v2 v3 v4 r1 r2 r3 r4 r5 r6 r7 v5 v6 r8 r9 r10 r11 v7 h1 r12 v8 v9 h2 r13 v10 v11 r14 v12 v13 r15 v14 w15 r16 x122 x123 h3 h4 r17 r18 r19 r20 v18 r21 r22 r23 v19 h1 g0 f20 h2 g1 f21 h3 g2 fn124 h4 g3 fn173) H := hP
                    have hD : va_D A (wd_90cd99f9 h0 v0 r0 v1 v2 v3 v4 r1 r2 r3 r4 r5 r6 r7 v5 v6 r8 r9 r10 r11 v7 h1 r12 v8 v9 h2 r13 v10 v11 r14 v12 v13 r15 v14 w15 r16 x122 x123 h3 h4 r17 r18 r19 r20 v18 r21 r22 r23 v19 h1 g0 f20 h2 g1 f21 h3 g2 fn124 h4 g3 fn173) := hD
                    refine lv_aload_n hx hb dX12_tryShelf_139 rfl (lv_at hl 2 rfl) ?_
                    refine va_get (D := (dC, dI)) (ci := 12) (v := .ref h3) (C := RX12) (T := TX12) (N := 48) hx hb hts (fun _ h => List.mem_cons_of_mem _ (List.mem_append_right _ h)) hown hK hP 0 rfl rfl 37 (by decide) (hts (.fieldLink RX12 74 "LeftArgumentsModel" "onShelf" "[I") (List.mem_cons_of_mem _ (List.mem_append_left _ (List.mem_of_getElem? (i := 15) rfl)))) (fun _ h9 => h9) rfl dX12_tryShelf_140 ?_
                    refine lv_iload_n hx hb dX12_tryShelf_143 rfl (lv_at hl 3 rfl) ?_
                    refine lv_iload hx hb dX12_tryShelf_144 (lv_at hl 0 rfl) ?_
                    refine va_iast hx hb hK hP hD hS 3 2 rfl rfl (pv_c (x := 4) (n := 8) (by decide)) dX12_tryShelf_146 (fun H locs hP hD hS => ?_)
                    obtain ⟨fn174, efn174⟩ : ∃ g : Nat → Int32, g = upd fn124 (Int32.toNatClampNeg 4) x121 := ⟨_, rfl⟩
                    rw [← efn174] at hP hD
                    have hP : va_P (dC, dI) vwCl (wd_90cd99f9 h0 v0 r0 v1 v2 v3 v4 r1 r2 r3 r4 r5 r6 r7 v5 v6 r8 r9 r10 r11 v7 h1 r12 v8 v9 h2 r13 v10 v11 r14 v12 v13 r15 v14 w15 r16 x122 x123 h3 h4 r17 r18 r19 r20 v18 r21 r22 r23 v19 h1 g0 f20 h2 g1 f21 h3 g2 fn174 h4 g3 fn173) H := hP
                    have hD : va_D A (wd_90cd99f9 h0 v0 r0 v1 v2 v3 v4 r1 r2 r3 r4 r5 r6 r7 v5 v6 r8 r9 r10 r11 v7 h1 r12 v8 v9 h2 r13 v10 v11 r14 v12 v13 r15 v14 w15 r16 x122 x123 h3 h4 r17 r18 r19 r20 v18 r21 r22 r23 v19 h1 g0 f20 h2 g1 f21 h3 g2 fn174 h4 g3 fn173) := hD
                    refine lv_aload_n hx hb dX12_tryShelf_147 rfl (lv_at hl 2 rfl) ?_
                    refine lv_iload_n hx hb dX12_tryShelf_148 rfl (lv_at hl 3 rfl) ?_
                    refine lv_iconst (v := 1) hx hb dX12_tryShelf_149 (by decide) ?_
                    refine lv_iadd hx hb dX12_tryShelf_150 ?_
                    refine lv_topi (fun tv175 etv175 => ?_)
                    obtain rfl : tv175 = (5 : Int32) := etv175.trans (by first | rfl | decide)
                    refine lv_bipush (v := 10) hx hb dX12_tryShelf_151 (by decide) ?_
                    refine lv_iload_n hx hb dX12_tryShelf_153 rfl (lv_at hl 4 rfl) ?_
                    refine lv_imul hx hb dX12_tryShelf_154 ?_
                    refine lv_topi (fun t176 et176 => ?_)
                    refine lv_iload hx hb dX12_tryShelf_155 (lv_at hl 0 rfl) ?_
                    refine lv_iadd hx hb dX12_tryShelf_157 ?_
                    refine lv_topi (fun t177 et177 => ?_)
                    refine lv_iload_n hx hb dX12_tryShelf_158 rfl (lv_at hl 5 rfl) ?_
                    refine lv_aload_n hx hb dX12_tryShelf_159 rfl (lv_at hl 2 rfl) ?_
                    refine va_get (D := (dC, dI)) (ci := 12) (v := .ref h4) (C := RX12) (T := TX12) (N := 48) hx hb hts (fun _ h => List.mem_cons_of_mem _ (List.mem_append_right _ h)) hown hK hP 0 rfl rfl 38 (by decide) (hts (.fieldLink RX12 77 "LeftArgumentsModel" "room" "[I") (List.mem_cons_of_mem _ (List.mem_append_left _ (List.mem_of_getElem? (i := 31) rfl)))) (fun _ h9 => h9) rfl dX12_tryShelf_160 ?_
                    refine lv_iload hx hb dX12_tryShelf_163 (lv_at hl 0 rfl) ?_
                    refine va_iald hx hb hK hP 4 3 rfl rfl (vp_in_iff.mpr ⟨by omega, by omega⟩) dX12_tryShelf_165 ?_
                    refine lv_topi (fun t178 et178 => ?_)
                    refine lv_aload_n hx hb dX12_tryShelf_166 rfl (lv_at hl 2 rfl) ?_
                    refine lv_iload_n hx hb dX12_tryShelf_167 rfl (lv_at hl 3 rfl) ?_
                    refine lv_iconst (v := 0) hx hb dX12_tryShelf_168 (by decide) ?_
                    have hPc := hP.sub (ws' := (wd_5013416a h0 v0 r0 v1 v2 v3 v4 r1 r2 r3 r4 r5 r6 r7 v5 v6 r8 r9 r10 r11 v7 h1 r12 v8 v9 h2 r13 v10 v11 r14 v12 v13 r15 v14 w15 r16 x122 x123 h3 h4 r17 r18 r19 r20 v18 r21 r22 r23 v19 h2 g1 f21)) [0, 2] rfl
                    have hDc := hD.sub (ws' := (wd_5013416a h0 v0 r0 v1 v2 v3 v4 r1 r2 r3 r4 r5 r6 r7 v5 v6 r8 r9 r10 r11 v7 h1 r12 v8 v9 h2 r13 v10 v11 r14 v12 v13 r15 v14 w15 r16 x122 x123 h3 h4 r17 r18 r19 r20 v18 r21 r22 r23 v19 h2 g1 f21)) [0, 2] (by decide) rfl
                    have hKc := hK.sub (tys' := [(g1, .int)]) [1] rfl
                    have hFc := va_free (wc := (wd_5013416a h0 v0 r0 v1 v2 v3 v4 r1 r2 r3 r4 r5 r6 r7 v5 v6 r8 r9 r10 r11 v7 h1 r12 v8 v9 h2 r13 v10 v11 r14 v12 v13 r15 v14 w15 r16 x122 x123 h3 h4 r17 r18 r19 r20 v18 r21 r22 r23 v19 h2 g1 f21)) hD hS hA [0, 2] rfl
                    refine va_calli (va_runV (As := [.int 4, .int 0]) (rest := [.int t178, .int v25, .int t177, .int 5, .ref h0]) ⟨hx, hb, hml, hown, hts⟩ (k_X12_of_3 l dC dI h0 h2 v0 r0 v1 v2 v3 v4 r1 r2 r3 r4 r5 r6 r7 v5 v6 r8 r9 r10 r11 v7 h1 r12 v8 v9 r13 v10 v11 r14 v12 v13 r15 v14 w15 r16 x122 x123 h3 h4 r17 r18 r19 r20 v18 r21 r22 r23 v19 g1 f21 4 ⟨i_v1a, i_v1b⟩ ⟨i_v5a, i_v5b⟩ ⟨i_v6a, i_v6b⟩ ⟨i_v7a, i_v7b⟩ ⟨i_v8a, i_v8b⟩ ⟨i_v9a, i_v9b⟩ ⟨i_v10a, i_v10b⟩ ⟨i_v14a, i_v14b⟩ ⟨i_v18a, i_v18b⟩ ⟨i_v19a, i_v19b⟩ ⟨by decide, by decide⟩ ia_f21.1 H.size) (cwV 2 hts g_X12_tryShelf_4_2 rfl rfl rfl (by decide +kernel) ⟨Nat.le_of_ble_eq_true rfl, Nat.le_of_ble_eq_true rfl⟩) (pv_PV12 hPc hKc hDc (q0 := 0) rfl) rfl rfl hl.1 rfl (lv_room (Nat.le_of_ble_eq_true rfl)) dX12_tryShelf_169 ⟨Nat.le_of_ble_eq_true rfl, Nat.le_of_ble_eq_true rfl⟩) hS (fun q _ h => hFc q h) hFc (fun ra179 u t H1 locs ht hvm hwra179 hB hz1 hk1 hS => ?_)
                    try rw [hwra179] at hB
                    have hkra179_0 : ((4 : Int32)).toInt = 4 := by decide
                    obtain ⟨pt0_ra179, pt1_ra179, pt2_ra179, hP1, hK1, hD1⟩ := hB
                    rw [ht] at hP1
                    obtain ⟨hP2, hD2⟩ := va_join (wr := (wd_20b67a68 h1 g0 f20 h3 g2 fn174 h4 g3 fn173)) (w1 := (wd_5013416a h0 v0 r0 v1 v2 v3 v4 r1 r2 r3 r4 r5 r6 r7 v5 v6 r8 r9 r10 r11 v7 h1 r12 v8 v9 h2 r13 v10 v11 r14 v12 v13 r15 v14 w15 r16 x122 x123 h3 h4 r17 r18 r19 r20 v18 r21 r22 r23 v19 h2 g1 f21)) hP hD [0, 2] [1, 3, 4] rfl rfl (by decide) (by decide) hk1 hFc hP1 hD1
                    clear hP hD hPc hDc hKc hFc hP1 hK1 hD1 hk1 hz1
                    generalize H1 = H at hP2 hS ⊢
                    have hP := hP2.sub (ws' := (wd_90cd99f9 h0 v0 r0 v1 v2 v3 v4 r1 r2 r3 r4 r5 r6 r7 v5 v6 r8 r9 r10 r11 v7 h1 r12 v8 v9 h2 r13 v10 v11 r14 v12 v13 r15 v14 w15 r16 x122 x123 h3 h4 r17 r18 r19 r20 v18 r21 r22 r23 v19 h1 g0 f20 h2 g1 f21 h3 g2 fn174 h4 g3 fn173)) [3, 0, 4, 1, 2] rfl
                    have hD := hD2.sub (ws' := (wd_90cd99f9 h0 v0 r0 v1 v2 v3 v4 r1 r2 r3 r4 r5 r6 r7 v5 v6 r8 r9 r10 r11 v7 h1 r12 v8 v9 h2 r13 v10 v11 r14 v12 v13 r15 v14 w15 r16 x122 x123 h3 h4 r17 r18 r19 r20 v18 r21 r22 r23 v19 h1 g0 f20 h2 g1 f21 h3 g2 fn174 h4 g3 fn173)) [3, 0, 4, 1, 2] (by decide) rfl
                    clear hP2 hD2
                    have hJ181 : ∀ (x180 : Int32) (H : Heap) (locs : List Loc) (ls : Array Slot), 0 ≤ x180.toInt → x180.toInt ≤ 1 → va_P (dC, dI) vwCl (wd_90cd99f9 h0 v0 r0 v1 v2 v3 v4 r1 r2 r3 r4 r5 r6 r7 v5 v6 r8 r9 r10 r11 v7 h1 r12 v8 v9 h2 r13 v10 v11 r14 v12 v13 r15 v14 w15 r16 x122 x123 h3 h4 r17 r18 r19 r20 v18 r21 r22 r23 v19 h1 g0 f20 h2 g1 f21 h3 g2 fn174 h4 g3 fn173) H → va_D A (wd_90cd99f9 h0 v0 r0 v1 v2 v3 v4 r1 r2 r3 r4 r5 r6 r7 v5 v6 r8 r9 r10 r11 v7 h1 r12 v8 v9 h2 r13 v10 v11 r14 v12 v13 r15 v14 w15 r16 x122 x123 h3 h4 r17 r18 r19 r20 v18 r21 r22 r23 v19 h1 g0 f20 h2 g1 f21 h3 g2 fn174 h4 g3 fn173) → va_S A s.heap H locs → lv_has ls 7 [(6, .int x121), (5, .int x104), (0, .ref h0), (1, .int 4), (2, .int v24), (3, .int v25), (4, .int v26)] → W p l e ({ frames := 7, cells := 0, slots := 0, locals := 166 }) s m ([.ref h0, .int 4, .int v24, .int v25, .int v26] : List Value).toArray below meth c H locs 0 0 Q (F0 m 180 ls [.int x180, .int v25, .int t177, .int 5, .ref h0]) := by
                      intro x180 H locs ls qa_x180 qb_x180 hP hD hS hl
                      refine lv_iadd hx hb dX12_tryShelf_180 ?_
                      refine lv_topi (fun t182 et182 => ?_)
                      have r5t182v25 := Int32.le_toInt v25; have r6t182v25 := Int32.toInt_lt v25
                      have gt182 : t182.toInt = v25.toInt + x180.toInt := pv_add (a := v25.toInt) (b := x180.toInt) et182 rfl rfl (by omega) (by omega)
                      refine lv_iload hx hb dX12_tryShelf_181 (lv_at hl 6 rfl) ?_
                      have hPc := hP.sub (ws' := (wd_90cd99f9 h0 v0 r0 v1 v2 v3 v4 r1 r2 r3 r4 r5 r6 r7 v5 v6 r8 r9 r10 r11 v7 h1 r12 v8 v9 h2 r13 v10 v11 r14 v12 v13 r15 v14 w15 r16 x122 x123 h3 h4 r17 r18 r19 r20 v18 r21 r22 r23 v19 h1 g0 f20 h2 g1 f21 h3 g2 fn174 h4 g3 fn173)) [0, 1, 2, 3, 4] rfl
                      have hDc := hD.sub (ws' := (wd_90cd99f9 h0 v0 r0 v1 v2 v3 v4 r1 r2 r3 r4 r5 r6 r7 v5 v6 r8 r9 r10 r11 v7 h1 r12 v8 v9 h2 r13 v10 v11 r14 v12 v13 r15 v14 w15 r16 x122 x123 h3 h4 r17 r18 r19 r20 v18 r21 r22 r23 v19 h1 g0 f20 h2 g1 f21 h3 g2 fn174 h4 g3 fn173)) [0, 1, 2, 3, 4] (by decide) rfl
                      have hKc := hK.sub (tys' := [(g0, .int), (g1, .int), (g2, .int), (g3, .int)]) [0, 1, 2, 3] rfl
                      have hFc := va_free (wc := (wd_90cd99f9 h0 v0 r0 v1 v2 v3 v4 r1 r2 r3 r4 r5 r6 r7 v5 v6 r8 r9 r10 r11 v7 h1 r12 v8 v9 h2 r13 v10 v11 r14 v12 v13 r15 v14 w15 r16 x122 x123 h3 h4 r17 r18 r19 r20 v18 r21 r22 r23 v19 h1 g0 f20 h2 g1 f21 h3 g2 fn174 h4 g3 fn173)) hD hS hA [0, 1, 2, 3, 4] rfl
                      refine va_callv (va_runV (As := [.int 5, .int t177, .int t182, .int v26]) (rest := []) ⟨hx, hb, hml, hown, hts⟩ (k_X12_tryShelf_3 l dC dI h0 h1 h2 h3 h4 v0 r0 v1 v2 v3 v4 r1 r2 r3 r4 r5 r6 r7 v5 v6 r8 r9 r10 r11 v7 r12 v8 v9 r13 v10 v11 r14 v12 v13 r15 v14 w15 r16 x122 x123 r17 r18 r19 r20 v18 r21 r22 r23 v19 g0 f20 g1 f21 g2 fn174 g3 fn173 t177 t182 v26 ⟨i_v1a, i_v1b⟩ ⟨i_v5a, i_v5b⟩ ⟨i_v6a, i_v6b⟩ ⟨i_v7a, i_v7b⟩ ⟨i_v8a, i_v8b⟩ ⟨i_v9a, i_v9b⟩ ⟨i_v10a, i_v10b⟩ ⟨i_v14a, i_v14b⟩ ⟨i_v18a, i_v18b⟩ ⟨i_v19a, i_v19b⟩ ⟨i_v26a, i_v26b⟩ ia_f20 ia_f21 H.size) (cwV 4 hts g_X12_tryShelf_4_4 rfl rfl rfl (by decide +kernel) ⟨Nat.le_of_ble_eq_true rfl, Nat.le_of_ble_eq_true rfl⟩) (pv_PV12 hPc hKc hDc (q0 := 0) rfl) rfl rfl hl.1 rfl (lv_room (Nat.le_of_ble_eq_true rfl)) dX12_tryShelf_183 ⟨Nat.le_of_ble_eq_true rfl, Nat.le_of_ble_eq_true rfl⟩) hS (fun q _ h => hFc q h) hFc (fun u t H1 locs ht hvm hwra183 hB hz1 hk1 hS => ?_)
                      obtain ⟨x184, x185, fn186, fn187, hP1, hK1, hD1⟩ := hB
                      rw [ht] at hP1
                      obtain ⟨hP2, hD2⟩ := va_join (wr := []) (w1 := (wd_90cd99f9 h0 v0 r0 v1 v2 v3 v4 r1 r2 r3 r4 r5 r6 r7 v5 v6 r8 r9 r10 r11 v7 h1 r12 v8 v9 h2 r13 v10 v11 r14 v12 v13 r15 v14 w15 r16 x184 x185 h3 h4 r17 r18 r19 r20 v18 r21 r22 r23 v19 h1 g0 f20 h2 g1 f21 h3 g2 fn186 h4 g3 fn187)) hP hD [0, 1, 2, 3, 4] [] rfl rfl (by decide) (by decide) hk1 hFc hP1 hD1
                      clear hP hD hPc hDc hKc hFc hP1 hK1 hD1 hk1 hz1
                      generalize H1 = H at hP2 hS ⊢
                      have hP : va_P (dC, dI) vwCl (wd_90cd99f9 h0 v0 r0 v1 v2 v3 v4 r1 r2 r3 r4 r5 r6 r7 v5 v6 r8 r9 r10 r11 v7 h1 r12 v8 v9 h2 r13 v10 v11 r14 v12 v13 r15 v14 w15 r16 x184 x185 h3 h4 r17 r18 r19 r20 v18 r21 r22 r23 v19 h1 g0 f20 h2 g1 f21 h3 g2 fn186 h4 g3 fn187) H := hP2
                      have hD : va_D A (wd_90cd99f9 h0 v0 r0 v1 v2 v3 v4 r1 r2 r3 r4 r5 r6 r7 v5 v6 r8 r9 r10 r11 v7 h1 r12 v8 v9 h2 r13 v10 v11 r14 v12 v13 r15 v14 w15 r16 x184 x185 h3 h4 r17 r18 r19 r20 v18 r21 r22 r23 v19 h1 g0 f20 h2 g1 f21 h3 g2 fn186 h4 g3 fn187) := hD2
                      clear hP2 hD2
                      refine lv_aload_n hx hb dX12_tryShelf_186 rfl (lv_at hl 2 rfl) ?_
                      refine va_get (D := (dC, dI)) (ci := 12) (v := .ref h4) (C := RX12) (T := TX12) (N := 48) hx hb hts (fun _ h => List.mem_cons_of_mem _ (List.mem_append_right _ h)) hown hK hP 0 rfl rfl 38 (by decide) (hts (.fieldLink RX12 77 "LeftArgumentsModel" "room" "[I") (List.mem_cons_of_mem _ (List.mem_append_left _ (List.mem_of_getElem? (i := 31) rfl)))) (fun _ h9 => h9) rfl dX12_tryShelf_187 ?_
                      refine lv_iload hx hb dX12_tryShelf_190 (lv_at hl 0 rfl) ?_
                      refine lv_dup2_11 hx hb dX12_tryShelf_192 rfl rfl ?_
                      refine va_iald hx hb hK hP 4 3 rfl rfl (vp_in_iff.mpr ⟨by omega, by omega⟩) dX12_tryShelf_193 ?_
                      refine lv_topi (fun t188 et188 => ?_)
                      refine lv_aload_n hx hb dX12_tryShelf_194 rfl (lv_at hl 2 rfl) ?_
                      refine lv_iload_n hx hb dX12_tryShelf_195 rfl (lv_at hl 3 rfl) ?_
                      refine lv_iconst (v := 0) hx hb dX12_tryShelf_196 (by decide) ?_
                      have hPc := hP.sub (ws' := (wd_5013416a h0 v0 r0 v1 v2 v3 v4 r1 r2 r3 r4 r5 r6 r7 v5 v6 r8 r9 r10 r11 v7 h1 r12 v8 v9 h2 r13 v10 v11 r14 v12 v13 r15 v14 w15 r16 x184 x185 h3 h4 r17 r18 r19 r20 v18 r21 r22 r23 v19 h2 g1 f21)) [0, 2] rfl
                      have hDc := hD.sub (ws' := (wd_5013416a h0 v0 r0 v1 v2 v3 v4 r1 r2 r3 r4 r5 r6 r7 v5 v6 r8 r9 r10 r11 v7 h1 r12 v8 v9 h2 r13 v10 v11 r14 v12 v13 r15 v14 w15 r16 x184 x185 h3 h4 r17 r18 r19 r20 v18 r21 r22 r23 v19 h2 g1 f21)) [0, 2] (by decide) rfl
                      have hKc := hK.sub (tys' := [(g1, .int)]) [1] rfl
                      have hFc := va_free (wc := (wd_5013416a h0 v0 r0 v1 v2 v3 v4 r1 r2 r3 r4 r5 r6 r7 v5 v6 r8 r9 r10 r11 v7 h1 r12 v8 v9 h2 r13 v10 v11 r14 v12 v13 r15 v14 w15 r16 x184 x185 h3 h4 r17 r18 r19 r20 v18 r21 r22 r23 v19 h2 g1 f21)) hD hS hA [0, 2] rfl
                      refine va_calli (va_runV (As := [.int 4, .int 0]) (rest := [.int t188, .int x121, .ref h4]) ⟨hx, hb, hml, hown, hts⟩ (k_X12_of_3 l dC dI h0 h2 v0 r0 v1 v2 v3 v4 r1 r2 r3 r4 r5 r6 r7 v5 v6 r8 r9 r10 r11 v7 h1 r12 v8 v9 r13 v10 v11 r14 v12 v13 r15 v14 w15 r16 x184 x185 h3 h4 r17 r18 r19 r20 v18 r21 r22 r23 v19 g1 f21 4 ⟨i_v1a, i_v1b⟩ ⟨i_v5a, i_v5b⟩ ⟨i_v6a, i_v6b⟩ ⟨i_v7a, i_v7b⟩ ⟨i_v8a, i_v8b⟩ ⟨i_v9a, i_v9b⟩ ⟨i_v10a, i_v10b⟩ ⟨i_v14a, i_v14b⟩ ⟨i_v18a, i_v18b⟩ ⟨i_v19a, i_v19b⟩ ⟨by decide, by decide⟩ ia_f21.1 H.size) (cwV 2 hts g_X12_tryShelf_4_2 rfl rfl rfl (by decide +kernel) ⟨Nat.le_of_ble_eq_true rfl, Nat.le_of_ble_eq_true rfl⟩) (pv_PV12 hPc hKc hDc (q0 := 0) rfl) rfl rfl hl.1 rfl (lv_room (Nat.le_of_ble_eq_true rfl)) dX12_tryShelf_197 ⟨Nat.le_of_ble_eq_true rfl, Nat.le_of_ble_eq_true rfl⟩) hS (fun q _ h => hFc q h) hFc (fun ra189 u t H1 locs ht hvm hwra189 hB hz1 hk1 hS => ?_)
                      try rw [hwra189] at hB
                      have hkra189_0 : ((4 : Int32)).toInt = 4 := by decide
                      obtain ⟨pt0_ra189, pt1_ra189, pt2_ra189, hP1, hK1, hD1⟩ := hB
                      rw [ht] at hP1
                      obtain ⟨hP2, hD2⟩ := va_join (wr := (wd_20b67a68 h1 g0 f20 h3 g2 fn186 h4 g3 fn187)) (w1 := (wd_5013416a h0 v0 r0 v1 v2 v3 v4 r1 r2 r3 r4 r5 r6 r7 v5 v6 r8 r9 r10 r11 v7 h1 r12 v8 v9 h2 r13 v10 v11 r14 v12 v13 r15 v14 w15 r16 x184 x185 h3 h4 r17 r18 r19 r20 v18 r21 r22 r23 v19 h2 g1 f21)) hP hD [0, 2] [1, 3, 4] rfl rfl (by decide) (by decide) hk1 hFc hP1 hD1
                      clear hP hD hPc hDc hKc hFc hP1 hK1 hD1 hk1 hz1
                      generalize H1 = H at hP2 hS ⊢
                      have hP := hP2.sub (ws' := (wd_90cd99f9 h0 v0 r0 v1 v2 v3 v4 r1 r2 r3 r4 r5 r6 r7 v5 v6 r8 r9 r10 r11 v7 h1 r12 v8 v9 h2 r13 v10 v11 r14 v12 v13 r15 v14 w15 r16 x184 x185 h3 h4 r17 r18 r19 r20 v18 r21 r22 r23 v19 h1 g0 f20 h2 g1 f21 h3 g2 fn186 h4 g3 fn187)) [3, 0, 4, 1, 2] rfl
                      have hD := hD2.sub (ws' := (wd_90cd99f9 h0 v0 r0 v1 v2 v3 v4 r1 r2 r3 r4 r5 r6 r7 v5 v6 r8 r9 r10 r11 v7 h1 r12 v8 v9 h2 r13 v10 v11 r14 v12 v13 r15 v14 w15 r16 x184 x185 h3 h4 r17 r18 r19 r20 v18 r21 r22 r23 v19 h1 g0 f20 h2 g1 f21 h3 g2 fn186 h4 g3 fn187)) [3, 0, 4, 1, 2] (by decide) rfl
                      clear hP2 hD2
                      refine lv_isub hx hb dX12_tryShelf_200 ?_
                      refine lv_topi (fun t190 et190 => ?_)
                      refine va_iast hx hb hK hP hD hS 4 3 rfl rfl (vp_in_iff.mpr ⟨by omega, by omega⟩) dX12_tryShelf_201 (fun H locs hP hD hS => ?_)
                      obtain ⟨fn191, efn191⟩ : ∃ g : Nat → Int32, g = upd fn187 (Int32.toNatClampNeg x121) t190 := ⟨_, rfl⟩
                      rw [← efn191] at hP hD
                      have hP : va_P (dC, dI) vwCl (wd_90cd99f9 h0 v0 r0 v1 v2 v3 v4 r1 r2 r3 r4 r5 r6 r7 v5 v6 r8 r9 r10 r11 v7 h1 r12 v8 v9 h2 r13 v10 v11 r14 v12 v13 r15 v14 w15 r16 x184 x185 h3 h4 r17 r18 r19 r20 v18 r21 r22 r23 v19 h1 g0 f20 h2 g1 f21 h3 g2 fn186 h4 g3 fn191) H := hP
                      have hD : va_D A (wd_90cd99f9 h0 v0 r0 v1 v2 v3 v4 r1 r2 r3 r4 r5 r6 r7 v5 v6 r8 r9 r10 r11 v7 h1 r12 v8 v9 h2 r13 v10 v11 r14 v12 v13 r15 v14 w15 r16 x184 x185 h3 h4 r17 r18 r19 r20 v18 r21 r22 r23 v19 h1 g0 f20 h2 g1 f21 h3 g2 fn186 h4 g3 fn191) := hD
                      exact hJ137 x184 x185 fn186 fn191 H locs ls hP hD hS (lv_sub hl [0, 1, 2, 3, 4, 5, 6] rfl)
                    refine lv_icmp_ne (tgt := 179) hx hb dX12_tryShelf_172 (by decide) (fun c192 => ?_) (fun c192 => ?_)
                    · skip
                      have fc192 : ¬ (t178.toInt = ra179.toInt) := fun h9 => c192 (Int32.toInt_inj.mp h9)
                      have r1c192 := Int32.toInt_lt t178
                      have r2c192 := Int32.toInt_lt ra179
                      have r3c192 := Int32.le_toInt t178
                      have r4c192 := Int32.le_toInt ra179
                      refine lv_iconst (v := 0) hx hb dX12_tryShelf_179 (by decide) ?_
                      exact hJ181 0 H locs ls (by decide) (by decide) hP hD hS (lv_sub hl [0, 1, 2, 3, 4, 5, 6] rfl)
                    · skip
                      have fc192 : t178.toInt = ra179.toInt := congrArg Int32.toInt c192
                      have r1c192 := Int32.toInt_lt t178
                      have r2c192 := Int32.toInt_lt ra179
                      have r3c192 := Int32.le_toInt t178
                      have r4c192 := Int32.le_toInt ra179
                      refine lv_iconst (v := 1) hx hb dX12_tryShelf_175 (by decide) ?_
                      refine lv_goto (tgt := 180) hx hb dX12_tryShelf_176 (by decide) ?_
                      exact hJ181 1 H locs ls (by decide) (by decide) hP hD hS (lv_sub hl [0, 1, 2, 3, 4, 5, 6] rfl)
          exact hL131 _ 0 v16 v17 f22 f23 H locs ls (by decide) (by decide) (Nat.lt_succ_self _) hP hD hS (lv_sub hl [0, 1, 2, 3, 4, 5, 6] rfl)
        refine lv_if_eq (tgt := 68) hx hb dX12_tryShelf_56 (by decide) (fun c193 => ?_) (fun c193 => ?_)
        · skip
          have fc193 : v26.toInt = 0 := congrArg Int32.toInt c193
          refine lv_bipush (v := 8) hx hb dX12_tryShelf_68 (by decide) ?_
          exact hJ105 8 H locs ls (by decide) (by decide) hP hD hS (lv_sub hl [0, 1, 2, 3, 4] rfl)
        · skip
          have fc193 : ¬ (v26.toInt = 0) := fun h9 => c193 (Int32.toInt_inj.mp h9)
          refine lv_aload_n hx hb dX12_tryShelf_59 rfl (lv_at hl 0 rfl) ?_
          refine va_get (D := (dC, dI)) (ci := 12) (v := .ref h1) (C := RX12) (T := TX12) (N := 48) hx hb hts (fun _ h => List.mem_cons_of_mem _ (List.mem_append_right _ h)) hown hK hP 0 rfl rfl 20 (by decide) (hts (.fieldLink RX12 46 "LeftArgumentsModel" "rule" "[I") (List.mem_cons_of_mem _ (List.mem_append_left _ (List.mem_of_getElem? (i := 37) rfl)))) (fun _ h9 => h9) rfl dX12_tryShelf_60 ?_
          refine lv_iconst (v := 1) hx hb dX12_tryShelf_63 (by decide) ?_
          refine va_iald hx hb hK hP 1 0 rfl rfl (pv_c (x := 1) (n := 4) (by decide)) dX12_tryShelf_64 ?_
          refine lv_topi (fun t194 et194 => ?_)
          have gat194 : 0 ≤ t194.toInt ∧ t194.toInt ≤ 5 := by rw [et194]; exact ia_f20.1
          refine lv_goto (tgt := 70) hx hb dX12_tryShelf_65 (by decide) ?_
          exact hJ105 t194 H locs ls (by first | omega | decide) (by first | omega | decide) hP hD hS (lv_sub hl [0, 1, 2, 3, 4] rfl)
      · skip
        have fc103 : ra102.toInt = 0 := congrArg Int32.toInt c103
        have q0wra102 := wra102 (by omega)
        refine lv_aload_n hx hb dX12_tryShelf_42 rfl (lv_at hl 0 rfl) ?_
        refine lv_iload_n hx hb dX12_tryShelf_43 rfl (lv_at hl 1 rfl) ?_
        refine lv_iconst (v := 1) hx hb dX12_tryShelf_44 (by decide) ?_
        refine lv_iadd hx hb dX12_tryShelf_45 ?_
        refine lv_topi (fun tv195 etv195 => ?_)
        obtain rfl : tv195 = (5 : Int32) := etv195.trans (by first | rfl | decide)
        refine lv_iload_n hx hb dX12_tryShelf_46 rfl (lv_at hl 2 rfl) ?_
        refine lv_iload_n hx hb dX12_tryShelf_47 rfl (lv_at hl 3 rfl) ?_
        refine lv_iload hx hb dX12_tryShelf_48 (lv_at hl 4 rfl) ?_
        have hPc := hP.sub (ws' := (wd_90cd99f9 h0 v0 r0 v1 v2 v3 v4 r1 r2 r3 r4 r5 r6 r7 v5 v6 r8 r9 r10 r11 v7 h1 r12 v8 v9 h2 r13 v10 v11 r14 v12 v13 r15 v14 w15 r16 v16 v17 h3 h4 r17 r18 r19 r20 v18 r21 r22 r23 v19 h1 g0 f20 h2 g1 f21 h3 g2 f22 h4 g3 f23)) [0, 1, 2, 3, 4] rfl
        have hDc := hD.sub (ws' := (wd_90cd99f9 h0 v0 r0 v1 v2 v3 v4 r1 r2 r3 r4 r5 r6 r7 v5 v6 r8 r9 r10 r11 v7 h1 r12 v8 v9 h2 r13 v10 v11 r14 v12 v13 r15 v14 w15 r16 v16 v17 h3 h4 r17 r18 r19 r20 v18 r21 r22 r23 v19 h1 g0 f20 h2 g1 f21 h3 g2 f22 h4 g3 f23)) [0, 1, 2, 3, 4] (by decide) rfl
        have hKc := hK.sub (tys' := [(g0, .int), (g1, .int), (g2, .int), (g3, .int)]) [0, 1, 2, 3] rfl
        have hFc := va_free (wc := (wd_90cd99f9 h0 v0 r0 v1 v2 v3 v4 r1 r2 r3 r4 r5 r6 r7 v5 v6 r8 r9 r10 r11 v7 h1 r12 v8 v9 h2 r13 v10 v11 r14 v12 v13 r15 v14 w15 r16 v16 v17 h3 h4 r17 r18 r19 r20 v18 r21 r22 r23 v19 h1 g0 f20 h2 g1 f21 h3 g2 f22 h4 g3 f23)) hD hS hA [0, 1, 2, 3, 4] rfl
        refine va_callv (va_runV (As := [.int 5, .int v24, .int v25, .int v26]) (rest := []) ⟨hx, hb, hml, hown, hts⟩ (k_X12_tryShelf_3 l dC dI h0 h1 h2 h3 h4 v0 r0 v1 v2 v3 v4 r1 r2 r3 r4 r5 r6 r7 v5 v6 r8 r9 r10 r11 v7 r12 v8 v9 r13 v10 v11 r14 v12 v13 r15 v14 w15 r16 v16 v17 r17 r18 r19 r20 v18 r21 r22 r23 v19 g0 f20 g1 f21 g2 f22 g3 f23 v24 v25 v26 ⟨i_v1a, i_v1b⟩ ⟨i_v5a, i_v5b⟩ ⟨i_v6a, i_v6b⟩ ⟨i_v7a, i_v7b⟩ ⟨i_v8a, i_v8b⟩ ⟨i_v9a, i_v9b⟩ ⟨i_v10a, i_v10b⟩ ⟨i_v14a, i_v14b⟩ ⟨i_v18a, i_v18b⟩ ⟨i_v19a, i_v19b⟩ ⟨i_v26a, i_v26b⟩ ia_f20 ia_f21 H.size) (cwV 4 hts g_X12_tryShelf_4_4 rfl rfl rfl (by decide +kernel) ⟨Nat.le_of_ble_eq_true rfl, Nat.le_of_ble_eq_true rfl⟩) (pv_PV12 hPc hKc hDc (q0 := 0) rfl) rfl rfl hl.1 rfl (lv_room (Nat.le_of_ble_eq_true rfl)) dX12_tryShelf_50 ⟨Nat.le_of_ble_eq_true rfl, Nat.le_of_ble_eq_true rfl⟩) hS (fun q _ h => hFc q h) hFc (fun u t H1 locs ht hvm hwra196 hB hz1 hk1 hS => ?_)
        obtain ⟨x197, x198, fn199, fn200, hP1, hK1, hD1⟩ := hB
        rw [ht] at hP1
        obtain ⟨hP2, hD2⟩ := va_join (wr := []) (w1 := (wd_90cd99f9 h0 v0 r0 v1 v2 v3 v4 r1 r2 r3 r4 r5 r6 r7 v5 v6 r8 r9 r10 r11 v7 h1 r12 v8 v9 h2 r13 v10 v11 r14 v12 v13 r15 v14 w15 r16 x197 x198 h3 h4 r17 r18 r19 r20 v18 r21 r22 r23 v19 h1 g0 f20 h2 g1 f21 h3 g2 fn199 h4 g3 fn200)) hP hD [0, 1, 2, 3, 4] [] rfl rfl (by decide) (by decide) hk1 hFc hP1 hD1
        clear hP hD hPc hDc hKc hFc hP1 hK1 hD1 hk1 hz1
        generalize H1 = H at hP2 hS ⊢
        have hP : va_P (dC, dI) vwCl (wd_90cd99f9 h0 v0 r0 v1 v2 v3 v4 r1 r2 r3 r4 r5 r6 r7 v5 v6 r8 r9 r10 r11 v7 h1 r12 v8 v9 h2 r13 v10 v11 r14 v12 v13 r15 v14 w15 r16 x197 x198 h3 h4 r17 r18 r19 r20 v18 r21 r22 r23 v19 h1 g0 f20 h2 g1 f21 h3 g2 fn199 h4 g3 fn200) H := hP2
        have hD : va_D A (wd_90cd99f9 h0 v0 r0 v1 v2 v3 v4 r1 r2 r3 r4 r5 r6 r7 v5 v6 r8 r9 r10 r11 v7 h1 r12 v8 v9 h2 r13 v10 v11 r14 v12 v13 r15 v14 w15 r16 x197 x198 h3 h4 r17 r18 r19 r20 v18 r21 r22 r23 v19 h1 g0 f20 h2 g1 f21 h3 g2 fn199 h4 g3 fn200) := hD2
        clear hP2 hD2
        subst hQ
        have hP9 := hP.sub (ws' := (wd_90cd99f9 h0 v0 r0 v1 v2 v3 v4 r1 r2 r3 r4 r5 r6 r7 v5 v6 r8 r9 r10 r11 v7 h1 r12 v8 v9 h2 r13 v10 v11 r14 v12 v13 r15 v14 w15 r16 x197 x198 h3 h4 r17 r18 r19 r20 v18 r21 r22 r23 v19 h1 g0 f20 h2 g1 f21 h3 g2 fn199 h4 g3 fn200)) [0, 1, 2, 3, 4] rfl
        have hD9 := hD.sub (ws' := (wd_90cd99f9 h0 v0 r0 v1 v2 v3 v4 r1 r2 r3 r4 r5 r6 r7 v5 v6 r8 r9 r10 r11 v7 h1 r12 v8 v9 h2 r13 v10 v11 r14 v12 v13 r15 v14 w15 r16 x197 x198 h3 h4 r17 r18 r19 r20 v18 r21 r22 r23 v19 h1 g0 f20 h2 g1 f21 h3 g2 fn199 h4 g3 fn200)) [0, 1, 2, 3, 4] (by decide) rfl
        have hK9 := hK.sub (tys' := []) [] rfl
        exact W.vret hx hb hr (fun t ht hW => ⟨⟨(), rfl, trivial, ⟨x197, x198, fn199, fn200, by rw [ht]; exact hP9, va_K.moved hW.alike hK9, hD9⟩⟩, hS.F ht⟩) hS.2.2 dX12_tryShelf_53
    · skip
      have fc101 : ¬ (v25.toInt < v17.toInt) := fun h9 => c101 (Int32.lt_iff_toInt_lt.mpr h9)
      have r1c101 := Int32.toInt_lt v25
      have r2c101 := Int32.toInt_lt v17
      have r3c101 := Int32.le_toInt v25
      have r4c101 := Int32.le_toInt v17
      subst hQ
      have hP9 := hP.sub (ws' := (wd_90cd99f9 h0 v0 r0 v1 v2 v3 v4 r1 r2 r3 r4 r5 r6 r7 v5 v6 r8 r9 r10 r11 v7 h1 r12 v8 v9 h2 r13 v10 v11 r14 v12 v13 r15 v14 w15 r16 v16 v17 h3 h4 r17 r18 r19 r20 v18 r21 r22 r23 v19 h1 g0 f20 h2 g1 f21 h3 g2 f22 h4 g3 f23)) [0, 1, 2, 3, 4] rfl
      have hD9 := hD.sub (ws' := (wd_90cd99f9 h0 v0 r0 v1 v2 v3 v4 r1 r2 r3 r4 r5 r6 r7 v5 v6 r8 r9 r10 r11 v7 h1 r12 v8 v9 h2 r13 v10 v11 r14 v12 v13 r15 v14 w15 r16 v16 v17 h3 h4 r17 r18 r19 r20 v18 r21 r22 r23 v19 h1 g0 f20 h2 g1 f21 h3 g2 f22 h4 g3 f23)) [0, 1, 2, 3, 4] (by decide) rfl
      have hK9 := hK.sub (tys' := []) [] rfl
      exact W.vret hx hb hr (fun t ht hW => ⟨⟨(), rfl, trivial, ⟨v16, v17, f22, f23, by rw [ht]; exact hP9, va_K.moved hW.alike hK9, hD9⟩⟩, hS.F ht⟩) hS.2.2 dX12_tryShelf_16
def q_X12_tryShelf_5 : List Cond := .code yX12_tryShelf cX12_tryShelf 7 none :: (([.fieldLink RX12 388 "LeftArgumentsModel" "bestRow" "I", .code yX12_isThere cX12_isThere 2 (some .boolean), .code yX12_in cX12_in 3 (some .boolean), .initialized RX12, .static yX12_in, .methodLink RX12 217 yX12_in, .code yX12_of cX12_of 3 (some .int), .fieldLink RX12 52 "LeftArgumentsModel" "now" "[I", .instanceMethod yX12_of, .selects RX12 yX12_of yX12_of, .methodLink RX12 287 yX12_of, .instanceMethod yX12_isThere, .selects RX12 yX12_isThere yX12_isThere, .methodLink RX12 290 yX12_isThere, .code yX12_isCalm cX12_isCalm 4 (some .boolean), .fieldLink RX12 74 "LeftArgumentsModel" "onShelf" "[I", .code yX12_setsOff cX12_setsOff 3 (some .boolean), .methodLink RX12 411 Lib.Math.abs.name, .static Lib.Math.abs.name, .initialized "java/lang/Math", .code Lib.Math.abs.name Lib.Math.abs.code 1 (some .int), .code yX12_stubbornOf cX12_stubbornOf 2 (some .int), .instanceMethod yX12_stubbornOf, .selects RX12 yX12_stubbornOf yX12_stubbornOf, .methodLink RX12 414 yX12_stubbornOf, .instanceMethod yX12_setsOff, .selects RX12 yX12_setsOff yX12_setsOff, .methodLink RX12 401 yX12_setsOff, .instanceMethod yX12_isCalm, .selects RX12 yX12_isCalm yX12_isCalm, .methodLink RX12 398 yX12_isCalm, .fieldLink RX12 77 "LeftArgumentsModel" "room" "[I", .code yX12_tryShelf cX12_tryShelf 7 none, .fieldLink RX12 391 "LeftArgumentsModel" "bestMany" "I", .instanceMethod yX12_tryShelf, .selects RX12 yX12_tryShelf yX12_tryShelf, .methodLink RX12 394 yX12_tryShelf, .fieldLink RX12 46 "LeftArgumentsModel" "rule" "[I"] : List Cond) ++ wsX120)
set_option maxRecDepth 20000 in
theorem g_X12_tryShelf_5_0 : GoodIn q_X12_tryShelf_5 (wsV RX12 290 RX12 yX12_isThere q_X12_isThere) := goodIn_app (goodIn_r _ [14, 12, 13, 4] rfl (by decide +kernel)) (goodIn_ca (goodIn_r (.code yX12_isThere cX12_isThere 2 (some .boolean) :: [.code yX12_in cX12_in 3 (some .boolean), .initialized RX12, .static yX12_in, .methodLink RX12 217 yX12_in, .code yX12_of cX12_of 3 (some .int), .fieldLink RX12 52 "LeftArgumentsModel" "now" "[I", .instanceMethod yX12_of, .selects RX12 yX12_of yX12_of, .methodLink RX12 287 yX12_of]) [2, 3, 4, 5, 6, 7, 8, 9, 10, 11] rfl (by decide +kernel)) (goodIn_sub (fun _ h => List.mem_cons_of_mem _ (List.mem_append_right _ h)) gwX12))
set_option maxRecDepth 20000 in
theorem g_X12_tryShelf_5_1 : GoodIn q_X12_tryShelf_5 (wsV RX12 398 RX12 yX12_isCalm q_X12_isCalm) := goodIn_app (goodIn_r _ [31, 29, 30, 4] rfl (by decide +kernel)) (goodIn_ca (goodIn_r (.code yX12_isCalm cX12_isCalm 4 (some .boolean) :: [.code yX12_isThere cX12_isThere 2 (some .boolean), .code yX12_in cX12_in 3 (some .boolean), .initialized RX12, .static yX12_in, .methodLink RX12 217 yX12_in, .code yX12_of cX12_of 3 (some .int), .fieldLink RX12 52 "LeftArgumentsModel" "now" "[I", .instanceMethod yX12_of, .selects RX12 yX12_of yX12_of, .methodLink RX12 287 yX12_of, .instanceMethod yX12_isThere, .selects RX12 yX12_isThere yX12_isThere, .methodLink RX12 290 yX12_isThere, .fieldLink RX12 74 "LeftArgumentsModel" "onShelf" "[I", .code yX12_setsOff cX12_setsOff 3 (some .boolean), .methodLink RX12 411 Lib.Math.abs.name, .static Lib.Math.abs.name, .initialized "java/lang/Math", .code Lib.Math.abs.name Lib.Math.abs.code 1 (some .int), .code yX12_stubbornOf cX12_stubbornOf 2 (some .int), .instanceMethod yX12_stubbornOf, .selects RX12 yX12_stubbornOf yX12_stubbornOf, .methodLink RX12 414 yX12_stubbornOf, .instanceMethod yX12_setsOff, .selects RX12 yX12_setsOff yX12_setsOff, .methodLink RX12 401 yX12_setsOff]) [15, 2, 3, 4, 5, 6, 7, 8, 9, 10, 11, 12, 13, 14, 16, 17, 18, 19, 20, 21, 22, 23, 24, 25, 26, 27, 28] rfl (by decide +kernel)) (goodIn_sub (fun _ h => List.mem_cons_of_mem _ (List.mem_append_right _ h)) gwX12))
set_option maxRecDepth 20000 in
theorem g_X12_tryShelf_5_2 : GoodIn q_X12_tryShelf_5 (wsV RX12 287 RX12 yX12_of q_X12_of_3) := goodIn_app (goodIn_r _ [11, 9, 10, 4] rfl (by decide +kernel)) (goodIn_ca (goodIn_r (.code yX12_of cX12_of 3 (some .int) :: [.fieldLink RX12 52 "LeftArgumentsModel" "now" "[I"]) [7, 8] rfl (by decide +kernel)) (goodIn_sub (fun _ h => List.mem_cons_of_mem _ (List.mem_append_right _ h)) gwX12))
set_option maxRecDepth 20000 in
theorem g_X12_tryShelf_5_4 : GoodIn q_X12_tryShelf_5 (wsV RX12 394 RX12 yX12_tryShelf q_X12_tryShelf_4) := goodIn_app (goodIn_r _ [37, 35, 36, 4] rfl (by decide +kernel)) (goodIn_ca (goodIn_r (.code yX12_tryShelf cX12_tryShelf 7 none :: [.fieldLink RX12 388 "LeftArgumentsModel" "bestRow" "I", .code yX12_isThere cX12_isThere 2 (some .boolean), .code yX12_in cX12_in 3 (some .boolean), .initialized RX12, .static yX12_in, .methodLink RX12 217 yX12_in, .code yX12_of cX12_of 3 (some .int), .fieldLink RX12 52 "LeftArgumentsModel" "now" "[I", .instanceMethod yX12_of, .selects RX12 yX12_of yX12_of, .methodLink RX12 287 yX12_of, .instanceMethod yX12_isThere, .selects RX12 yX12_isThere yX12_isThere, .methodLink RX12 290 yX12_isThere, .code yX12_isCalm cX12_isCalm 4 (some .boolean), .fieldLink RX12 74 "LeftArgumentsModel" "onShelf" "[I", .code yX12_setsOff cX12_setsOff 3 (some .boolean), .methodLink RX12 411 Lib.Math.abs.name, .static Lib.Math.abs.name, .initialized "java/lang/Math", .code Lib.Math.abs.name Lib.Math.abs.code 1 (some .int), .code yX12_stubbornOf cX12_stubbornOf 2 (some .int), .instanceMethod yX12_stubbornOf, .selects RX12 yX12_stubbornOf yX12_stubbornOf, .methodLink RX12 414 yX12_stubbornOf, .instanceMethod yX12_setsOff, .selects RX12 yX12_setsOff yX12_setsOff, .methodLink RX12 401 yX12_setsOff, .instanceMethod yX12_isCalm, .selects RX12 yX12_isCalm yX12_isCalm, .methodLink RX12 398 yX12_isCalm, .fieldLink RX12 77 "LeftArgumentsModel" "room" "[I", .code yX12_tryShelf cX12_tryShelf 7 none, .fieldLink RX12 391 "LeftArgumentsModel" "bestMany" "I", .instanceMethod yX12_tryShelf, .selects RX12 yX12_tryShelf yX12_tryShelf, .methodLink RX12 394 yX12_tryShelf, .fieldLink RX12 46 "LeftArgumentsModel" "rule" "[I"]) [33, 1, 2, 3, 4, 5, 6, 7, 8, 9, 10, 11, 12, 13, 14, 15, 16, 17, 18, 19, 20, 21, 22, 23, 24, 25, 26, 27, 28, 29, 30, 31, 32, 33, 34, 35, 36, 37, 38] rfl (by decide +kernel)) (goodIn_sub (fun _ h => List.mem_cons_of_mem _ (List.mem_append_right _ h)) gwX12))
set_option maxHeartbeats 4000000 in
set_option maxRecDepth 100000 in
theorem k_X12_tryShelf_5 (l : Launch) (dC : Nat → ClassId) (dI : Nat → Nat → Nat) (h0 : Nat) (h1 : Nat) (h2 : Nat) (h3 : Nat) (h4 : Nat) (v0 : Int32) (r0 : Nat) (v1 : Int32) (v2 : Int32) (v3 : Int32) (v4 : Int32) (r1 : Nat) (r2 : Nat) (r3 : Nat) (r4 : Nat) (r5 : Nat) (r6 : Nat) (r7 : Nat) (v5 : Int32) (v6 : Int32) (r8 : Nat) (r9 : Nat) (r10 : Nat) (r11 : Nat) (v7 : Int32) (r12 : Nat) (v8 : Int32) (v9 : Int32) (r13 : Nat) (v10 : Int32) (v11 : Int32) (r14 : Nat) (v12 : Int32) (v13 : Int32) (r15 : Nat) (v14 : Int32) (w15 : Int64) (r16 : Nat) (v16 : Int32) (v17 : Int32) (r17 : Nat) (r18 : Nat) (r19 : Nat) (r20 : Nat) (v18 : Int32) (r21 : Nat) (r22 : Nat) (r23 : Nat) (v19 : Int32) (g0 : ClassId) (f20 : Nat → Int32) (g1 : ClassId) (f21 : Nat → Int32) (g2 : ClassId) (f22 : Nat → Int32) (g3 : ClassId) (f23 : Nat → Int32) (v24 : Int32) (v25 : Int32) (v26 : Int32) (i_v1 : 0 ≤ v1.toInt ∧ v1.toInt ≤ 240) (i_v5 : 0 ≤ v5.toInt ∧ v5.toInt ≤ 4) (i_v6 : 0 ≤ v6.toInt ∧ v6.toInt ≤ 4) (i_v7 : 0 ≤ v7.toInt ∧ v7.toInt ≤ 8) (i_v8 : 0 ≤ v8.toInt ∧ v8.toInt ≤ 8) (i_v9 : 0 ≤ v9.toInt ∧ v9.toInt ≤ 1) (i_v10 : -1 ≤ v10.toInt ∧ v10.toInt ≤ 3) (i_v14 : 0 ≤ v14.toInt ∧ v14.toInt ≤ 40) (i_v18 : 0 ≤ v18.toInt ∧ v18.toInt ≤ 10) (i_v19 : 0 ≤ v19.toInt ∧ v19.toInt ≤ 1) (i_v26 : 0 ≤ v26.toInt ∧ v26.toInt ≤ 1) (ia_f20 : (pm_RU f20)) (ia_f21 : (pm_NW f21)) (sz : Nat) : Met l yX12_tryShelf q_X12_tryShelf_5 ({ frames := 8, cells := 0, slots := 0, locals := 192 }) (va_Pc [.ref h0, .int 3, .int v24, .int v25, .int v26] (fun U => U.heap.size = sz ∧ va_P (dC, dI) vwCl (wd_90cd99f9 h0 v0 r0 v1 v2 v3 v4 r1 r2 r3 r4 r5 r6 r7 v5 v6 r8 r9 r10 r11 v7 h1 r12 v8 v9 h2 r13 v10 v11 r14 v12 v13 r15 v14 w15 r16 v16 v17 h3 h4 r17 r18 r19 r20 v18 r21 r22 r23 v19 h1 g0 f20 h2 g1 f21 h3 g2 f22 h4 g3 f23) U.heap ∧ va_K (dC, dI) vwCl [(g0, .int), (g1, .int), (g2, .int), (g3, .int)] U ∧ va_D (fun _ => True) (wd_90cd99f9 h0 v0 r0 v1 v2 v3 v4 r1 r2 r3 r4 r5 r6 r7 v5 v6 r8 r9 r10 r11 v7 h1 r12 v8 v9 h2 r13 v10 v11 r14 v12 v13 r15 v14 w15 r16 v16 v17 h3 h4 r17 r18 r19 r20 v18 r21 r22 r23 v19 h1 g0 f20 h2 g1 f21 h3 g2 f22 h4 g3 f23))) (va_Qv (fun (_ : Unit) => True) (fun (_ : Unit) (t : State) => (∃ (o_h0_35 : Int32) (o_h0_36 : Int32) (o_h3 : Nat → Int32) (o_h4 : Nat → Int32), va_P (dC, dI) vwCl (wd_90cd99f9 h0 v0 r0 v1 v2 v3 v4 r1 r2 r3 r4 r5 r6 r7 v5 v6 r8 r9 r10 r11 v7 h1 r12 v8 v9 h2 r13 v10 v11 r14 v12 v13 r15 v14 w15 r16 o_h0_35 o_h0_36 h3 h4 r17 r18 r19 r20 v18 r21 r22 r23 v19 h1 g0 f20 h2 g1 f21 h3 g2 o_h3 h4 g3 o_h4) t.heap ∧ va_K (dC, dI) vwCl [] t ∧ va_D (va_A (wd_90cd99f9 h0 v0 r0 v1 v2 v3 v4 r1 r2 r3 r4 r5 r6 r7 v5 v6 r8 r9 r10 r11 v7 h1 r12 v8 v9 h2 r13 v10 v11 r14 v12 v13 r15 v14 w15 r16 v16 v17 h3 h4 r17 r18 r19 r20 v18 r21 r22 r23 v19 h1 g0 f20 h2 g1 f21 h3 g2 f22 h4 g3 f23) sz) (wd_90cd99f9 h0 v0 r0 v1 v2 v3 v4 r1 r2 r3 r4 r5 r6 r7 v5 v6 r8 r9 r10 r11 v7 h1 r12 v8 v9 h2 r13 v10 v11 r14 v12 v13 r15 v14 w15 r16 o_h0_35 o_h0_36 h3 h4 r17 r18 r19 r20 v18 r21 r22 r23 v19 h1 g0 f20 h2 g1 f21 h3 g2 o_h3 h4 g3 o_h4))) (va_A (wd_90cd99f9 h0 v0 r0 v1 v2 v3 v4 r1 r2 r3 r4 r5 r6 r7 v5 v6 r8 r9 r10 r11 v7 h1 r12 v8 v9 h2 r13 v10 v11 r14 v12 v13 r15 v14 w15 r16 v16 v17 h3 h4 r17 r18 r19 r20 v18 r21 r22 r23 v19 h1 g0 f20 h2 g1 f21 h3 g2 f22 h4 g3 f23) sz)) 0 0 (va_A (wd_90cd99f9 h0 v0 r0 v1 v2 v3 v4 r1 r2 r3 r4 r5 r6 r7 v5 v6 r8 r9 r10 r11 v7 h1 r12 v8 v9 h2 r13 v10 v11 r14 v12 v13 r15 v14 w15 r16 v16 v17 h3 h4 r17 r18 r19 r20 v18 r21 r22 r23 v19 h1 g0 f20 h2 g1 f21 h3 g2 f22 h4 g3 f23) sz) := by
  refine Met.ofW (cc := cX12_tryShelf) (maxL := 7) (ret := none) (by decide) rfl ?_
  intro p e s m args below meth c s₁ B hml hv
  obtain ⟨i_v1a, i_v1b⟩ := i_v1
  obtain ⟨i_v5a, i_v5b⟩ := i_v5
  obtain ⟨i_v6a, i_v6b⟩ := i_v6
  obtain ⟨i_v7a, i_v7b⟩ := i_v7
  obtain ⟨i_v8a, i_v8b⟩ := i_v8
  obtain ⟨i_v9a, i_v9b⟩ := i_v9
  obtain ⟨i_v10a, i_v10b⟩ := i_v10
  obtain ⟨i_v14a, i_v14b⟩ := i_v14
  obtain ⟨i_v18a, i_v18b⟩ := i_v18
  obtain ⟨i_v19a, i_v19b⟩ := i_v19
  obtain ⟨i_v26a, i_v26b⟩ := i_v26
  obtain ⟨rfl, hsz, hP, hK, hD0⟩ := hv
  have hx := B.exec
  have hb := B.bytes
  have hr := B.returns
  have hts := atoms_spec (ws := q_X12_tryShelf_5) B.pre
  have hown : s.vm.findClass RX12 = some m.cls := findClass_of_methodNamed B.named
  have hlocks := B.notSynchronized
  subst hsz
  have hD := hD0.self (sz := s.heap.size)
  generalize hAe : va_A (wd_90cd99f9 h0 v0 r0 v1 v2 v3 v4 r1 r2 r3 r4 r5 r6 r7 v5 v6 r8 r9 r10 r11 v7 h1 r12 v8 v9 h2 r13 v10 v11 r14 v12 v13 r15 v14 w15 r16 v16 v17 h3 h4 r17 r18 r19 r20 v18 r21 r22 r23 v19 h1 g0 f20 h2 g1 f21 h3 g2 f22 h4 g3 f23) s.heap.size = A at hD ⊢
  have hA : ∀ q : Nat, s.heap.size ≤ q → A q := fun q h => by rw [← hAe]; exact Or.inr h
  have hS : va_S A s.heap s.heap [] := va_S.rf
  generalize hQ : (MQ below _ _ s 0 0 A) = Q
  have hl := lv_entry ([.ref h0, .int 3, .int v24, .int v25, .int v26]) (n := 7) (Nat.le_of_ble_eq_true rfl)
  rw [lg_entry_eq]
  generalize (lg_sl ([.ref h0, .int 3, .int v24, .int v25, .int v26]) ++ List.replicate (7 - (lg_sl ([.ref h0, .int 3, .int v24, .int v25, .int v26])).length) Slot.unset).toArray = ls at hl ⊢
  have hl : lv_has ls 7 [(0, .ref h0), (1, .int 3), (2, .int v24), (3, .int v25), (4, .int v26)] := hl
  obtain ⟨H, hH⟩ : ∃ H : Heap, H = s.heap := ⟨_, rfl⟩
  obtain ⟨locs, hlocs⟩ : ∃ y : List Loc, y = [] := ⟨_, rfl⟩
  have hS : va_S A s.heap H locs := by rw [hH, hlocs]; exact va_S.rf
  have hP : va_P (dC, dI) vwCl (wd_90cd99f9 h0 v0 r0 v1 v2 v3 v4 r1 r2 r3 r4 r5 r6 r7 v5 v6 r8 r9 r10 r11 v7 h1 r12 v8 v9 h2 r13 v10 v11 r14 v12 v13 r15 v14 w15 r16 v16 v17 h3 h4 r17 r18 r19 r20 v18 r21 r22 r23 v19 h1 g0 f20 h2 g1 f21 h3 g2 f22 h4 g3 f23) H := by rw [hH]; exact hP
  rw [← hH, ← hlocs]
  refine lv_aload_n hx hb dX12_tryShelf_0 rfl (lv_at hl 0 rfl) ?_
  refine va_get (D := (dC, dI)) (ci := 12) (v := .int v16) (C := RX12) (T := TX12) (N := 48) hx hb hts (fun _ h => List.mem_cons_of_mem _ (List.mem_append_right _ h)) hown hK hP 0 rfl rfl 35 (by decide) (hts (.fieldLink RX12 388 "LeftArgumentsModel" "bestRow" "I") (List.mem_cons_of_mem _ (List.mem_append_left _ (List.mem_of_getElem? (i := 0) rfl)))) (fun _ h9 => h9) rfl dX12_tryShelf_1 ?_
  refine lv_iconst (v := (-1)) hx hb dX12_tryShelf_4 (by decide) ?_
  refine lv_icmp_eq (tgt := 17) hx hb dX12_tryShelf_5 (by decide) (fun c1 => ?_) (fun c1 => ?_)
  · skip
    have fc1 : v16.toInt = (-1) := congrArg Int32.toInt c1
    refine lv_iload_n hx hb dX12_tryShelf_17 rfl (lv_at hl 1 rfl) ?_
    refine lv_bipush (v := 8) hx hb dX12_tryShelf_18 (by decide) ?_
    refine lv_icmp_ne (tgt := 34) hx hb dX12_tryShelf_20 (by decide) (fun _ => ?_) (fun c => absurd c (by decide))
    refine lv_aload_n hx hb dX12_tryShelf_34 rfl (lv_at hl 0 rfl) ?_
    refine lv_iload_n hx hb dX12_tryShelf_35 rfl (lv_at hl 1 rfl) ?_
    have hPc := hP.sub (ws' := (wd_5013416a h0 v0 r0 v1 v2 v3 v4 r1 r2 r3 r4 r5 r6 r7 v5 v6 r8 r9 r10 r11 v7 h1 r12 v8 v9 h2 r13 v10 v11 r14 v12 v13 r15 v14 w15 r16 v16 v17 h3 h4 r17 r18 r19 r20 v18 r21 r22 r23 v19 h2 g1 f21)) [0, 2] rfl
    have hDc := hD.sub (ws' := (wd_5013416a h0 v0 r0 v1 v2 v3 v4 r1 r2 r3 r4 r5 r6 r7 v5 v6 r8 r9 r10 r11 v7 h1 r12 v8 v9 h2 r13 v10 v11 r14 v12 v13 r15 v14 w15 r16 v16 v17 h3 h4 r17 r18 r19 r20 v18 r21 r22 r23 v19 h2 g1 f21)) [0, 2] (by decide) rfl
    have hKc := hK.sub (tys' := [(g1, .int)]) [1] rfl
    have hFc := va_free (wc := (wd_5013416a h0 v0 r0 v1 v2 v3 v4 r1 r2 r3 r4 r5 r6 r7 v5 v6 r8 r9 r10 r11 v7 h1 r12 v8 v9 h2 r13 v10 v11 r14 v12 v13 r15 v14 w15 r16 v16 v17 h3 h4 r17 r18 r19 r20 v18 r21 r22 r23 v19 h2 g1 f21)) hD hS hA [0, 2] rfl
    refine va_calli (va_runV (As := [.int 3]) (rest := []) ⟨hx, hb, hml, hown, hts⟩ (k_X12_isThere l dC dI h0 h2 v0 r0 v1 v2 v3 v4 r1 r2 r3 r4 r5 r6 r7 v5 v6 r8 r9 r10 r11 v7 h1 r12 v8 v9 r13 v10 v11 r14 v12 v13 r15 v14 w15 r16 v16 v17 h3 h4 r17 r18 r19 r20 v18 r21 r22 r23 v19 g1 f21 3 ⟨i_v1a, i_v1b⟩ ⟨i_v5a, i_v5b⟩ ⟨i_v6a, i_v6b⟩ ⟨i_v7a, i_v7b⟩ ⟨i_v8a, i_v8b⟩ ⟨i_v9a, i_v9b⟩ ⟨i_v10a, i_v10b⟩ ⟨i_v14a, i_v14b⟩ ⟨i_v18a, i_v18b⟩ ⟨i_v19a, i_v19b⟩ ia_f21.1 H.size) (cwV 1 hts g_X12_tryShelf_5_0 rfl rfl rfl (by decide +kernel) ⟨Nat.le_of_ble_eq_true rfl, Nat.le_of_ble_eq_true rfl⟩) (pv_PV12 hPc hKc hDc (q0 := 0) rfl) rfl rfl hl.1 rfl (lv_room (Nat.le_of_ble_eq_true rfl)) dX12_tryShelf_36 ⟨Nat.le_of_ble_eq_true rfl, Nat.le_of_ble_eq_true rfl⟩) hS (fun q _ h => hFc q h) hFc (fun ra2 u t H1 locs ht hvm hwra2 hB hz1 hk1 hS => ?_)
    try rw [hwra2] at hB
    have hkra2_0 : ((3 : Int32)).toInt = 3 := by decide
    obtain ⟨pt0_ra2, pt1_ra2, pt2_ra2, pt3_ra2, pt4_ra2, pt5_ra2, hP1, hK1, hD1⟩ := hB
    rw [ht] at hP1
    obtain ⟨hP2, hD2⟩ := va_join (wr := (wd_20b67a68 h1 g0 f20 h3 g2 f22 h4 g3 f23)) (w1 := (wd_5013416a h0 v0 r0 v1 v2 v3 v4 r1 r2 r3 r4 r5 r6 r7 v5 v6 r8 r9 r10 r11 v7 h1 r12 v8 v9 h2 r13 v10 v11 r14 v12 v13 r15 v14 w15 r16 v16 v17 h3 h4 r17 r18 r19 r20 v18 r21 r22 r23 v19 h2 g1 f21)) hP hD [0, 2] [1, 3, 4] rfl rfl (by decide) (by decide) hk1 hFc hP1 hD1
    clear hP hD hPc hDc hKc hFc hP1 hK1 hD1 hk1 hz1
    generalize H1 = H at hP2 hS ⊢
    have hP := hP2.sub (ws' := (wd_90cd99f9 h0 v0 r0 v1 v2 v3 v4 r1 r2 r3 r4 r5 r6 r7 v5 v6 r8 r9 r10 r11 v7 h1 r12 v8 v9 h2 r13 v10 v11 r14 v12 v13 r15 v14 w15 r16 v16 v17 h3 h4 r17 r18 r19 r20 v18 r21 r22 r23 v19 h1 g0 f20 h2 g1 f21 h3 g2 f22 h4 g3 f23)) [3, 0, 4, 1, 2] rfl
    have hD := hD2.sub (ws' := (wd_90cd99f9 h0 v0 r0 v1 v2 v3 v4 r1 r2 r3 r4 r5 r6 r7 v5 v6 r8 r9 r10 r11 v7 h1 r12 v8 v9 h2 r13 v10 v11 r14 v12 v13 r15 v14 w15 r16 v16 v17 h3 h4 r17 r18 r19 r20 v18 r21 r22 r23 v19 h1 g0 f20 h2 g1 f21 h3 g2 f22 h4 g3 f23)) [3, 0, 4, 1, 2] (by decide) rfl
    clear hP2 hD2
    have wra2 : ra2.toInt = 0 → ¬ f21 (pm_I 3 7) = 1 := fun h9 => pt5_ra2 h9 (by omega) (by omega)
    refine lv_if_ne (tgt := 54) hx hb dX12_tryShelf_39 (by decide) (fun c3 => ?_) (fun c3 => ?_)
    · skip
      have fc3 : ¬ (ra2.toInt = 0) := fun h9 => c3 (Int32.toInt_inj.mp h9)
      have q1pt4_ra2 := pt4_ra2 (by omega)
      refine lv_iload hx hb dX12_tryShelf_54 (lv_at hl 4 rfl) ?_
      have hJ5 : ∀ (x4 : Int32) (H : Heap) (locs : List Loc) (ls : Array Slot), 0 ≤ x4.toInt → x4.toInt ≤ 8 → va_P (dC, dI) vwCl (wd_90cd99f9 h0 v0 r0 v1 v2 v3 v4 r1 r2 r3 r4 r5 r6 r7 v5 v6 r8 r9 r10 r11 v7 h1 r12 v8 v9 h2 r13 v10 v11 r14 v12 v13 r15 v14 w15 r16 v16 v17 h3 h4 r17 r18 r19 r20 v18 r21 r22 r23 v19 h1 g0 f20 h2 g1 f21 h3 g2 f22 h4 g3 f23) H → va_D A (wd_90cd99f9 h0 v0 r0 v1 v2 v3 v4 r1 r2 r3 r4 r5 r6 r7 v5 v6 r8 r9 r10 r11 v7 h1 r12 v8 v9 h2 r13 v10 v11 r14 v12 v13 r15 v14 w15 r16 v16 v17 h3 h4 r17 r18 r19 r20 v18 r21 r22 r23 v19 h1 g0 f20 h2 g1 f21 h3 g2 f22 h4 g3 f23) → va_S A s.heap H locs → lv_has ls 7 [(0, .ref h0), (1, .int 3), (2, .int v24), (3, .int v25), (4, .int v26)] → W p l e ({ frames := 8, cells := 0, slots := 0, locals := 192 }) s m ([.ref h0, .int 3, .int v24, .int v25, .int v26] : List Value).toArray below meth c H locs 0 0 Q (F0 m 70 ls [.int x4]) := by
        intro x4 H locs ls qa_x4 qb_x4 hP hD hS hl
        refine lv_istore (lv' := [(5, .int x4), (0, .ref h0), (1, .int 3), (2, .int v24), (3, .int v25), (4, .int v26)]) hx hb dX12_tryShelf_70 hl (by decide) rfl (fun ls hl => ?_)
        refine lv_iconst (v := 0) hx hb dX12_tryShelf_72 (by decide) ?_
        refine lv_istore (lv' := [(6, .int 0), (5, .int x4), (0, .ref h0), (1, .int 3), (2, .int v24), (3, .int v25), (4, .int v26)]) hx hb dX12_tryShelf_73 hl (by decide) rfl (fun ls hl => ?_)
        have hL31 : ∀ (n9 : Nat), ∀ (x21 : Int32) (x22 : Int32) (x23 : Int32) (fn24 : Nat → Int32) (fn25 : Nat → Int32) (H : Heap) (locs : List Loc) (ls : Array Slot), 0 ≤ x21.toInt → x21.toInt ≤ 8 → (8 - x21.toInt).toNat < n9 → va_P (dC, dI) vwCl (wd_90cd99f9 h0 v0 r0 v1 v2 v3 v4 r1 r2 r3 r4 r5 r6 r7 v5 v6 r8 r9 r10 r11 v7 h1 r12 v8 v9 h2 r13 v10 v11 r14 v12 v13 r15 v14 w15 r16 x22 x23 h3 h4 r17 r18 r19 r20 v18 r21 r22 r23 v19 h1 g0 f20 h2 g1 f21 h3 g2 fn24 h4 g3 fn25) H → va_D A (wd_90cd99f9 h0 v0 r0 v1 v2 v3 v4 r1 r2 r3 r4 r5 r6 r7 v5 v6 r8 r9 r10 r11 v7 h1 r12 v8 v9 h2 r13 v10 v11 r14 v12 v13 r15 v14 w15 r16 x22 x23 h3 h4 r17 r18 r19 r20 v18 r21 r22 r23 v19 h1 g0 f20 h2 g1 f21 h3 g2 fn24 h4 g3 fn25) → va_S A s.heap H locs → lv_has ls 7 [(6, .int x21), (5, .int x4), (0, .ref h0), (1, .int 3), (2, .int v24), (3, .int v25), (4, .int v26)] → W p l e ({ frames := 8, cells := 0, slots := 0, locals := 192 }) s m ([.ref h0, .int 3, .int v24, .int v25, .int v26] : List Value).toArray below meth c H locs 0 0 Q (F0 m 75 ls []) := by
          intro n9
          induction n9 with
          | zero => intro x21 x22 x23 fn24 fn25 H locs ls qa_x21 qb_x21 hm9 hP hD hS hl; exact absurd hm9 (Nat.not_lt_zero _)
          | succ n9 ih_hL31 =>
            intro x21 x22 x23 fn24 fn25 H locs ls qa_x21 qb_x21 hm9 hP hD hS hl
            refine lv_iload hx hb dX12_tryShelf_75 (lv_at hl 0 rfl) ?_
            refine lv_iload hx hb dX12_tryShelf_77 (lv_at hl 1 rfl) ?_
            refine lv_icmp_ge (tgt := 208) hx hb dX12_tryShelf_79 (by decide) (fun c32 => ?_) (fun c32 => ?_)
            · skip
              have fc32 : x4.toInt ≤ x21.toInt := Int32.le_iff_toInt_le.mp c32
              have r1c32 := Int32.toInt_lt x21
              have r2c32 := Int32.toInt_lt x4
              have r3c32 := Int32.le_toInt x21
              have r4c32 := Int32.le_toInt x4
              subst hQ
              have hP9 := hP.sub (ws' := (wd_90cd99f9 h0 v0 r0 v1 v2 v3 v4 r1 r2 r3 r4 r5 r6 r7 v5 v6 r8 r9 r10 r11 v7 h1 r12 v8 v9 h2 r13 v10 v11 r14 v12 v13 r15 v14 w15 r16 x22 x23 h3 h4 r17 r18 r19 r20 v18 r21 r22 r23 v19 h1 g0 f20 h2 g1 f21 h3 g2 fn24 h4 g3 fn25)) [0, 1, 2, 3, 4] rfl
              have hD9 := hD.sub (ws' := (wd_90cd99f9 h0 v0 r0 v1 v2 v3 v4 r1 r2 r3 r4 r5 r6 r7 v5 v6 r8 r9 r10 r11 v7 h1 r12 v8 v9 h2 r13 v10 v11 r14 v12 v13 r15 v14 w15 r16 x22 x23 h3 h4 r17 r18 r19 r20 v18 r21 r22 r23 v19 h1 g0 f20 h2 g1 f21 h3 g2 fn24 h4 g3 fn25)) [0, 1, 2, 3, 4] (by decide) rfl
              have hK9 := hK.sub (tys' := []) [] rfl
              exact W.vret hx hb hr (fun t ht hW => ⟨⟨(), rfl, trivial, ⟨x22, x23, fn24, fn25, by rw [ht]; exact hP9, va_K.moved hW.alike hK9, hD9⟩⟩, hS.F ht⟩) hS.2.2 dX12_tryShelf_208
            · skip
              have fc32 : ¬ (x4.toInt ≤ x21.toInt) := fun h9 => c32 (Int32.le_iff_toInt_le.mpr h9)
              have r1c32 := Int32.toInt_lt x21
              have r2c32 := Int32.toInt_lt x4
              have r3c32 := Int32.le_toInt x21
              have r4c32 := Int32.le_toInt x4
              refine lv_iload hx hb dX12_tryShelf_82 (lv_at hl 6 rfl) ?_
              have hJ37 : ∀ (x33 : Int32) (x34 : Int32) (fn35 : Nat → Int32) (fn36 : Nat → Int32) (H : Heap) (locs : List Loc) (ls : Array Slot), va_P (dC, dI) vwCl (wd_90cd99f9 h0 v0 r0 v1 v2 v3 v4 r1 r2 r3 r4 r5 r6 r7 v5 v6 r8 r9 r10 r11 v7 h1 r12 v8 v9 h2 r13 v10 v11 r14 v12 v13 r15 v14 w15 r16 x33 x34 h3 h4 r17 r18 r19 r20 v18 r21 r22 r23 v19 h1 g0 f20 h2 g1 f21 h3 g2 fn35 h4 g3 fn36) H → va_D A (wd_90cd99f9 h0 v0 r0 v1 v2 v3 v4 r1 r2 r3 r4 r5 r6 r7 v5 v6 r8 r9 r10 r11 v7 h1 r12 v8 v9 h2 r13 v10 v11 r14 v12 v13 r15 v14 w15 r16 x33 x34 h3 h4 r17 r18 r19 r20 v18 r21 r22 r23 v19 h1 g0 f20 h2 g1 f21 h3 g2 fn35 h4 g3 fn36) → va_S A s.heap H locs → lv_has ls 7 [(6, .int x21), (5, .int x4), (0, .ref h0), (1, .int 3), (2, .int v24), (3, .int v25), (4, .int v26)] → W p l e ({ frames := 8, cells := 0, slots := 0, locals := 192 }) s m ([.ref h0, .int 3, .int v24, .int v25, .int v26] : List Value).toArray below meth c H locs 0 0 Q (F0 m 202 ls []) := by
                intro x33 x34 fn35 fn36 H locs ls hP hD hS hl
                obtain ⟨t38, et38⟩ : ∃ y : Int32, y = x21 + 1 := ⟨_, rfl⟩
                have gt38 : t38.toInt = x21.toInt + (1) := pv_add (a := x21.toInt) (b := (1)) et38 rfl (by decide) (by omega) (by omega)
                refine lv_iinc (v := t38) (lv' := [(6, .int t38), (5, .int x4), (0, .ref h0), (1, .int 3), (2, .int v24), (3, .int v25), (4, .int v26)]) hx hb dX12_tryShelf_202 hl (k := 0) rfl (by rw [et38]; rfl) (by decide) rfl (fun ls hl => ?_)
                refine lv_goto (tgt := 75) hx hb dX12_tryShelf_205 (by decide) ?_
                exact ih_hL31 t38 x33 x34 fn35 fn36 H locs ls (by first | omega | decide) (by first | omega | decide) (by first | omega | (simp only [Int.toNat] at *; omega)) hP hD hS (lv_sub hl [0, 1, 2, 3, 4, 5, 6] rfl)
              refine lv_if_eq (tgt := 113) hx hb dX12_tryShelf_84 (by decide) (fun c39 => ?_) (fun c39 => ?_)
              · skip
                have fc39 : v26.toInt = 0 := congrArg Int32.toInt c39
                refine lv_aload_n hx hb dX12_tryShelf_113 rfl (lv_at hl 2 rfl) ?_
                refine lv_iload_n hx hb dX12_tryShelf_114 rfl (lv_at hl 3 rfl) ?_
                refine lv_iload hx hb dX12_tryShelf_115 (lv_at hl 0 rfl) ?_
                have hPc := hP.sub (ws' := (wd_f4deda84 h0 v0 r0 v1 v2 v3 v4 r1 r2 r3 r4 r5 r6 r7 v5 v6 r8 r9 r10 r11 v7 h1 r12 v8 v9 h2 r13 v10 v11 r14 v12 v13 r15 v14 w15 r16 x22 x23 h3 h4 r17 r18 r19 r20 v18 r21 r22 r23 v19 h2 g1 f21 h3 g2 fn24)) [0, 2, 3] rfl
                have hDc := hD.sub (ws' := (wd_f4deda84 h0 v0 r0 v1 v2 v3 v4 r1 r2 r3 r4 r5 r6 r7 v5 v6 r8 r9 r10 r11 v7 h1 r12 v8 v9 h2 r13 v10 v11 r14 v12 v13 r15 v14 w15 r16 x22 x23 h3 h4 r17 r18 r19 r20 v18 r21 r22 r23 v19 h2 g1 f21 h3 g2 fn24)) [0, 2, 3] (by decide) rfl
                have hKc := hK.sub (tys' := [(g1, .int), (g2, .int)]) [1, 2] rfl
                have hFc := va_free (wc := (wd_f4deda84 h0 v0 r0 v1 v2 v3 v4 r1 r2 r3 r4 r5 r6 r7 v5 v6 r8 r9 r10 r11 v7 h1 r12 v8 v9 h2 r13 v10 v11 r14 v12 v13 r15 v14 w15 r16 x22 x23 h3 h4 r17 r18 r19 r20 v18 r21 r22 r23 v19 h2 g1 f21 h3 g2 fn24)) hD hS hA [0, 2, 3] rfl
                refine va_calli (va_runV (As := [.int 3, .int x21]) (rest := []) ⟨hx, hb, hml, hown, hts⟩ (k_X12_isCalm l dC dI h0 h2 h3 v0 r0 v1 v2 v3 v4 r1 r2 r3 r4 r5 r6 r7 v5 v6 r8 r9 r10 r11 v7 h1 r12 v8 v9 r13 v10 v11 r14 v12 v13 r15 v14 w15 r16 x22 x23 h4 r17 r18 r19 r20 v18 r21 r22 r23 v19 g1 f21 g2 fn24 3 x21 ⟨i_v1a, i_v1b⟩ ⟨i_v5a, i_v5b⟩ ⟨i_v6a, i_v6b⟩ ⟨i_v7a, i_v7b⟩ ⟨i_v8a, i_v8b⟩ ⟨i_v9a, i_v9b⟩ ⟨i_v10a, i_v10b⟩ ⟨i_v14a, i_v14b⟩ ⟨i_v18a, i_v18b⟩ ⟨i_v19a, i_v19b⟩ ⟨by decide, by decide⟩ ia_f21 H.size) (cwV 2 hts g_X12_tryShelf_5_1 rfl rfl rfl (by decide +kernel) ⟨Nat.le_of_ble_eq_true rfl, Nat.le_of_ble_eq_true rfl⟩) (pv_PV12 hPc hKc hDc (q0 := 0) rfl) rfl rfl hl.1 rfl (lv_room (Nat.le_of_ble_eq_true rfl)) dX12_tryShelf_117 ⟨Nat.le_of_ble_eq_true rfl, Nat.le_of_ble_eq_true rfl⟩) hS (fun q _ h => hFc q h) hFc (fun ra40 u t H1 locs ht hvm hwra40 hB hz1 hk1 hS => ?_)
                try rw [hwra40] at hB
                have hkra40_0 : ((3 : Int32)).toInt = 3 := by decide
                obtain ⟨pt0_ra40, pt1_ra40, hP1, hK1, hD1⟩ := hB
                rw [ht] at hP1
                obtain ⟨hP2, hD2⟩ := va_join (wr := (wd_5481fbec h1 g0 f20 h4 g3 fn25)) (w1 := (wd_f4deda84 h0 v0 r0 v1 v2 v3 v4 r1 r2 r3 r4 r5 r6 r7 v5 v6 r8 r9 r10 r11 v7 h1 r12 v8 v9 h2 r13 v10 v11 r14 v12 v13 r15 v14 w15 r16 x22 x23 h3 h4 r17 r18 r19 r20 v18 r21 r22 r23 v19 h2 g1 f21 h3 g2 fn24)) hP hD [0, 2, 3] [1, 4] rfl rfl (by decide) (by decide) hk1 hFc hP1 hD1
                clear hP hD hPc hDc hKc hFc hP1 hK1 hD1 hk1 hz1
                generalize H1 = H at hP2 hS ⊢
                have hP := hP2.sub (ws' := (wd_90cd99f9 h0 v0 r0 v1 v2 v3 v4 r1 r2 r3 r4 r5 r6 r7 v5 v6 r8 r9 r10 r11 v7 h1 r12 v8 v9 h2 r13 v10 v11 r14 v12 v13 r15 v14 w15 r16 x22 x23 h3 h4 r17 r18 r19 r20 v18 r21 r22 r23 v19 h1 g0 f20 h2 g1 f21 h3 g2 fn24 h4 g3 fn25)) [2, 0, 3, 4, 1] rfl
                have hD := hD2.sub (ws' := (wd_90cd99f9 h0 v0 r0 v1 v2 v3 v4 r1 r2 r3 r4 r5 r6 r7 v5 v6 r8 r9 r10 r11 v7 h1 r12 v8 v9 h2 r13 v10 v11 r14 v12 v13 r15 v14 w15 r16 x22 x23 h3 h4 r17 r18 r19 r20 v18 r21 r22 r23 v19 h1 g0 f20 h2 g1 f21 h3 g2 fn24 h4 g3 fn25)) [2, 0, 3, 4, 1] (by decide) rfl
                clear hP2 hD2
                refine lv_if_eq (tgt := 202) hx hb dX12_tryShelf_120 (by decide) (fun c41 => ?_) (fun c41 => ?_)
                · skip
                  have fc41 : ra40.toInt = 0 := congrArg Int32.toInt c41
                  exact hJ37 x22 x23 fn24 fn25 H locs ls hP hD hS (lv_sub hl [0, 1, 2, 3, 4, 5, 6] rfl)
                · skip
                  have fc41 : ¬ (ra40.toInt = 0) := fun h9 => c41 (Int32.toInt_inj.mp h9)
                  refine lv_aload_n hx hb dX12_tryShelf_123 rfl (lv_at hl 2 rfl) ?_
                  refine va_get (D := (dC, dI)) (ci := 12) (v := .ref h4) (C := RX12) (T := TX12) (N := 48) hx hb hts (fun _ h => List.mem_cons_of_mem _ (List.mem_append_right _ h)) hown hK hP 0 rfl rfl 38 (by decide) (hts (.fieldLink RX12 77 "LeftArgumentsModel" "room" "[I") (List.mem_cons_of_mem _ (List.mem_append_left _ (List.mem_of_getElem? (i := 31) rfl)))) (fun _ h9 => h9) rfl dX12_tryShelf_124 ?_
                  refine lv_iload hx hb dX12_tryShelf_127 (lv_at hl 0 rfl) ?_
                  refine lv_dup2_11 hx hb dX12_tryShelf_129 rfl rfl ?_
                  refine va_iald hx hb hK hP 4 3 rfl rfl (vp_in_iff.mpr ⟨by omega, by omega⟩) dX12_tryShelf_130 ?_
                  refine lv_topi (fun t42 et42 => ?_)
                  refine lv_aload_n hx hb dX12_tryShelf_131 rfl (lv_at hl 2 rfl) ?_
                  refine lv_iload_n hx hb dX12_tryShelf_132 rfl (lv_at hl 3 rfl) ?_
                  refine lv_iconst (v := 0) hx hb dX12_tryShelf_133 (by decide) ?_
                  have hPc := hP.sub (ws' := (wd_5013416a h0 v0 r0 v1 v2 v3 v4 r1 r2 r3 r4 r5 r6 r7 v5 v6 r8 r9 r10 r11 v7 h1 r12 v8 v9 h2 r13 v10 v11 r14 v12 v13 r15 v14 w15 r16 x22 x23 h3 h4 r17 r18 r19 r20 v18 r21 r22 r23 v19 h2 g1 f21)) [0, 2] rfl
                  have hDc := hD.sub (ws' := (wd_5013416a h0 v0 r0 v1 v2 v3 v4 r1 r2 r3 r4 r5 r6 r7 v5 v6 r8 r9 r10 r11 v7 h1 r12 v8 v9 h2 r13 v10 v11 r14 v12 v13 r15 v14 w15 r16 x22 x23 h3 h4 r17 r18 r19 r20 v18 r21 r22 r23 v19 h2 g1 f21)) [0, 2] (by decide) rfl
                  have hKc := hK.sub (tys' := [(g1, .int)]) [1] rfl
                  have hFc := va_free (wc := (wd_5013416a h0 v0 r0 v1 v2 v3 v4 r1 r2 r3 r4 r5 r6 r7 v5 v6 r8 r9 r10 r11 v7 h1 r12 v8 v9 h2 r13 v10 v11 r14 v12 v13 r15 v14 w15 r16 x22 x23 h3 h4 r17 r18 r19 r20 v18 r21 r22 r23 v19 h2 g1 f21)) hD hS hA [0, 2] rfl
                  refine va_calli (va_runV (As := [.int 3, .int 0]) (rest := [.int t42, .int x21, .ref h4]) ⟨hx, hb, hml, hown, hts⟩ (k_X12_of_3 l dC dI h0 h2 v0 r0 v1 v2 v3 v4 r1 r2 r3 r4 r5 r6 r7 v5 v6 r8 r9 r10 r11 v7 h1 r12 v8 v9 r13 v10 v11 r14 v12 v13 r15 v14 w15 r16 x22 x23 h3 h4 r17 r18 r19 r20 v18 r21 r22 r23 v19 g1 f21 3 ⟨i_v1a, i_v1b⟩ ⟨i_v5a, i_v5b⟩ ⟨i_v6a, i_v6b⟩ ⟨i_v7a, i_v7b⟩ ⟨i_v8a, i_v8b⟩ ⟨i_v9a, i_v9b⟩ ⟨i_v10a, i_v10b⟩ ⟨i_v14a, i_v14b⟩ ⟨i_v18a, i_v18b⟩ ⟨i_v19a, i_v19b⟩ ⟨by decide, by decide⟩ ia_f21.1 H.size) (cwV 2 hts g_X12_tryShelf_5_2 rfl rfl rfl (by decide +kernel) ⟨Nat.le_of_ble_eq_true rfl, Nat.le_of_ble_eq_true rfl⟩) (pv_PV12 hPc hKc hDc (q0 := 0) rfl) rfl rfl hl.1 rfl (lv_room (Nat.le_of_ble_eq_true rfl)) dX12_tryShelf_134 ⟨Nat.le_of_ble_eq_true rfl, Nat.le_of_ble_eq_true rfl⟩) hS (fun q _ h => hFc q h) hFc (fun ra43 u t H1 locs ht hvm hwra43 hB hz1 hk1 hS => ?_)
                  try rw [hwra43] at hB
                  have hkra43_0 : ((3 : Int32)).toInt = 3 := by decide
                  obtain ⟨pt0_ra43, pt1_ra43, pt2_ra43, hP1, hK1, hD1⟩ := hB
                  rw [ht] at hP1
                  obtain ⟨hP2, hD2⟩ := va_join (wr := (wd_20b67a68 h1 g0 f20 h3 g2 fn24 h4 g3 fn25)) (w1 := (wd_5013416a h0 v0 r0 v1 v2 v3 v4 r1 r2 r3 r4 r5 r6 r7 v5 v6 r8 r9 r10 r11 v7 h1 r12 v8 v9 h2 r13 v10 v11 r14 v12 v13 r15 v14 w15 r16 x22 x23 h3 h4 r17 r18 r19 r20 v18 r21 r22 r23 v19 h2 g1 f21)) hP hD [0, 2] [1, 3, 4] rfl rfl (by decide) (by decide) hk1 hFc hP1 hD1
                  clear hP hD hPc hDc hKc hFc hP1 hK1 hD1 hk1 hz1
                  generalize H1 = H at hP2 hS ⊢
                  have hP := hP2.sub (ws' := (wd_90cd99f9 h0 v0 r0 v1 v2 v3 v4 r1 r2 r3 r4 r5 r6 r7 v5 v6 r8 r9 r10 r11 v7 h1 r12 v8 v9 h2 r13 v10 v11 r14 v12 v13 r15 v14 w15 r16 x22 x23 h3 h4 r17 r18 r19 r20 v18 r21 r22 r23 v19 h1 g0 f20 h2 g1 f21 h3 g2 fn24 h4 g3 fn25)) [3, 0, 4, 1, 2] rfl
                  have hD := hD2.sub (ws' := (wd_90cd99f9 h0 v0 r0 v1 v2 v3 v4 r1 r2 r3 r4 r5 r6 r7 v5 v6 r8 r9 r10 r11 v7 h1 r12 v8 v9 h2 r13 v10 v11 r14 v12 v13 r15 v14 w15 r16 x22 x23 h3 h4 r17 r18 r19 r20 v18 r21 r22 r23 v19 h1 g0 f20 h2 g1 f21 h3 g2 fn24 h4 g3 fn25)) [3, 0, 4, 1, 2] (by decide) rfl
                  clear hP2 hD2
                  refine lv_iadd hx hb dX12_tryShelf_137 ?_
                  refine lv_topi (fun t44 et44 => ?_)
                  refine va_iast hx hb hK hP hD hS 4 3 rfl rfl (vp_in_iff.mpr ⟨by omega, by omega⟩) dX12_tryShelf_138 (fun H locs hP hD hS => ?_)
                  obtain ⟨fn45, efn45⟩ : ∃ g : Nat → Int32, g = upd fn25 (Int32.toNatClampNeg x21) t44 := ⟨_, rfl⟩
                  rw [← efn45] at hP hD
                  have hP : va_P (dC, dI) vwCl (wd_90cd99f9 h0 v0 r0 v1 v2 v3 v4 r1 r2 r3 r4 r5 r6 r7 v5 v6 r8 r9 r10 r11 v7 h1 r12 v8 v9 h2 r13 v10 v11 r14 v12 v13 r15 v14 w15 r16 x22 x23 h3 h4 r17 r18 r19 r20 v18 r21 r22 r23 v19 h1 g0 f20 h2 g1 f21 h3 g2 fn24 h4 g3 fn45) H := hP
                  have hD : va_D A (wd_90cd99f9 h0 v0 r0 v1 v2 v3 v4 r1 r2 r3 r4 r5 r6 r7 v5 v6 r8 r9 r10 r11 v7 h1 r12 v8 v9 h2 r13 v10 v11 r14 v12 v13 r15 v14 w15 r16 x22 x23 h3 h4 r17 r18 r19 r20 v18 r21 r22 r23 v19 h1 g0 f20 h2 g1 f21 h3 g2 fn24 h4 g3 fn45) := hD
                  refine lv_aload_n hx hb dX12_tryShelf_139 rfl (lv_at hl 2 rfl) ?_
                  refine va_get (D := (dC, dI)) (ci := 12) (v := .ref h3) (C := RX12) (T := TX12) (N := 48) hx hb hts (fun _ h => List.mem_cons_of_mem _ (List.mem_append_right _ h)) hown hK hP 0 rfl rfl 37 (by decide) (hts (.fieldLink RX12 74 "LeftArgumentsModel" "onShelf" "[I") (List.mem_cons_of_mem _ (List.mem_append_left _ (List.mem_of_getElem? (i := 15) rfl)))) (fun _ h9 => h9) rfl dX12_tryShelf_140 ?_
                  refine lv_iload_n hx hb dX12_tryShelf_143 rfl (lv_at hl 3 rfl) ?_
                  refine lv_iload hx hb dX12_tryShelf_144 (lv_at hl 0 rfl) ?_
                  refine va_iast hx hb hK hP hD hS 3 2 rfl rfl (pv_c (x := 3) (n := 8) (by decide)) dX12_tryShelf_146 (fun H locs hP hD hS => ?_)
                  obtain ⟨fn46, efn46⟩ : ∃ g : Nat → Int32, g = upd fn24 (Int32.toNatClampNeg 3) x21 := ⟨_, rfl⟩
                  rw [← efn46] at hP hD
                  have hP : va_P (dC, dI) vwCl (wd_90cd99f9 h0 v0 r0 v1 v2 v3 v4 r1 r2 r3 r4 r5 r6 r7 v5 v6 r8 r9 r10 r11 v7 h1 r12 v8 v9 h2 r13 v10 v11 r14 v12 v13 r15 v14 w15 r16 x22 x23 h3 h4 r17 r18 r19 r20 v18 r21 r22 r23 v19 h1 g0 f20 h2 g1 f21 h3 g2 fn46 h4 g3 fn45) H := hP
                  have hD : va_D A (wd_90cd99f9 h0 v0 r0 v1 v2 v3 v4 r1 r2 r3 r4 r5 r6 r7 v5 v6 r8 r9 r10 r11 v7 h1 r12 v8 v9 h2 r13 v10 v11 r14 v12 v13 r15 v14 w15 r16 x22 x23 h3 h4 r17 r18 r19 r20 v18 r21 r22 r23 v19 h1 g0 f20 h2 g1 f21 h3 g2 fn46 h4 g3 fn45) := hD
                  refine lv_aload_n hx hb dX12_tryShelf_147 rfl (lv_at hl 2 rfl) ?_
                  refine lv_iload_n hx hb dX12_tryShelf_148 rfl (lv_at hl 3 rfl) ?_
                  refine lv_iconst (v := 1) hx hb dX12_tryShelf_149 (by decide) ?_
                  refine lv_iadd hx hb dX12_tryShelf_150 ?_
                  refine lv_topi (fun tv47 etv47 => ?_)
                  obtain rfl : tv47 = (4 : Int32) := etv47.trans (by first | rfl | decide)
                  refine lv_bipush (v := 10) hx hb dX12_tryShelf_151 (by decide) ?_
                  refine lv_iload_n hx hb dX12_tryShelf_153 rfl (lv_at hl 4 rfl) ?_
                  refine lv_imul hx hb dX12_tryShelf_154 ?_
                  refine lv_topi (fun t48 et48 => ?_)
                  refine lv_iload hx hb dX12_tryShelf_155 (lv_at hl 0 rfl) ?_
                  refine lv_iadd hx hb dX12_tryShelf_157 ?_
                  refine lv_topi (fun t49 et49 => ?_)
                  refine lv_iload_n hx hb dX12_tryShelf_158 rfl (lv_at hl 5 rfl) ?_
                  refine lv_aload_n hx hb dX12_tryShelf_159 rfl (lv_at hl 2 rfl) ?_
                  refine va_get (D := (dC, dI)) (ci := 12) (v := .ref h4) (C := RX12) (T := TX12) (N := 48) hx hb hts (fun _ h => List.mem_cons_of_mem _ (List.mem_append_right _ h)) hown hK hP 0 rfl rfl 38 (by decide) (hts (.fieldLink RX12 77 "LeftArgumentsModel" "room" "[I") (List.mem_cons_of_mem _ (List.mem_append_left _ (List.mem_of_getElem? (i := 31) rfl)))) (fun _ h9 => h9) rfl dX12_tryShelf_160 ?_
                  refine lv_iload hx hb dX12_tryShelf_163 (lv_at hl 0 rfl) ?_
                  refine va_iald hx hb hK hP 4 3 rfl rfl (vp_in_iff.mpr ⟨by omega, by omega⟩) dX12_tryShelf_165 ?_
                  refine lv_topi (fun t50 et50 => ?_)
                  refine lv_aload_n hx hb dX12_tryShelf_166 rfl (lv_at hl 2 rfl) ?_
                  refine lv_iload_n hx hb dX12_tryShelf_167 rfl (lv_at hl 3 rfl) ?_
                  refine lv_iconst (v := 0) hx hb dX12_tryShelf_168 (by decide) ?_
                  have hPc := hP.sub (ws' := (wd_5013416a h0 v0 r0 v1 v2 v3 v4 r1 r2 r3 r4 r5 r6 r7 v5 v6 r8 r9 r10 r11 v7 h1 r12 v8 v9 h2 r13 v10 v11 r14 v12 v13 r15 v14 w15 r16 x22 x23 h3 h4 r17 r18 r19 r20 v18 r21 r22 r23 v19 h2 g1 f21)) [0, 2] rfl
                  have hDc := hD.sub (ws' := (wd_5013416a h0 v0 r0 v1 v2 v3 v4 r1 r2 r3 r4 r5 r6 r7 v5 v6 r8 r9 r10 r11 v7 h1 r12 v8 v9 h2 r13 v10 v11 r14 v12 v13 r15 v14 w15 r16 x22 x23 h3 h4 r17 r18 r19 r20 v18 r21 r22 r23 v19 h2 g1 f21)) [0, 2] (by decide) rfl
                  have hKc := hK.sub (tys' := [(g1, .int)]) [1] rfl
                  have hFc := va_free (wc := (wd_5013416a h0 v0 r0 v1 v2 v3 v4 r1 r2 r3 r4 r5 r6 r7 v5 v6 r8 r9 r10 r11 v7 h1 r12 v8 v9 h2 r13 v10 v11 r14 v12 v13 r15 v14 w15 r16 x22 x23 h3 h4 r17 r18 r19 r20 v18 r21 r22 r23 v19 h2 g1 f21)) hD hS hA [0, 2] rfl
                  refine va_calli (va_runV (As := [.int 3, .int 0]) (rest := [.int t50, .int v25, .int t49, .int 4, .ref h0]) ⟨hx, hb, hml, hown, hts⟩ (k_X12_of_3 l dC dI h0 h2 v0 r0 v1 v2 v3 v4 r1 r2 r3 r4 r5 r6 r7 v5 v6 r8 r9 r10 r11 v7 h1 r12 v8 v9 r13 v10 v11 r14 v12 v13 r15 v14 w15 r16 x22 x23 h3 h4 r17 r18 r19 r20 v18 r21 r22 r23 v19 g1 f21 3 ⟨i_v1a, i_v1b⟩ ⟨i_v5a, i_v5b⟩ ⟨i_v6a, i_v6b⟩ ⟨i_v7a, i_v7b⟩ ⟨i_v8a, i_v8b⟩ ⟨i_v9a, i_v9b⟩ ⟨i_v10a, i_v10b⟩ ⟨i_v14a, i_v14b⟩ ⟨i_v18a, i_v18b⟩ ⟨i_v19a, i_v19b⟩ ⟨by decide, by decide⟩ ia_f21.1 H.size) (cwV 2 hts g_X12_tryShelf_5_2 rfl rfl rfl (by decide +kernel) ⟨Nat.le_of_ble_eq_true rfl, Nat.le_of_ble_eq_true rfl⟩) (pv_PV12 hPc hKc hDc (q0 := 0) rfl) rfl rfl hl.1 rfl (lv_room (Nat.le_of_ble_eq_true rfl)) dX12_tryShelf_169 ⟨Nat.le_of_ble_eq_true rfl, Nat.le_of_ble_eq_true rfl⟩) hS (fun q _ h => hFc q h) hFc (fun ra51 u t H1 locs ht hvm hwra51 hB hz1 hk1 hS => ?_)
                  try rw [hwra51] at hB
                  have hkra51_0 : ((3 : Int32)).toInt = 3 := by decide
                  obtain ⟨pt0_ra51, pt1_ra51, pt2_ra51, hP1, hK1, hD1⟩ := hB
                  rw [ht] at hP1
                  obtain ⟨hP2, hD2⟩ := va_join (wr := (wd_20b67a68 h1 g0 f20 h3 g2 fn46 h4 g3 fn45)) (w1 := (wd_5013416a h0 v0 r0 v1 v2 v3 v4 r1 r2 r3 r4 r5 r6 r7 v5 v6 r8 r9 r10 r11 v7 h1 r12 v8 v9 h2 r13 v10 v11 r14 v12 v13 r15 v14 w15 r16 x22 x23 h3 h4 r17 r18 r19 r20 v18 r21 r22 r23 v19 h2 g1 f21)) hP hD [0, 2] [1, 3, 4] rfl rfl (by decide) (by decide) hk1 hFc hP1 hD1
                  clear hP hD hPc hDc hKc hFc hP1 hK1 hD1 hk1 hz1
                  generalize H1 = H at hP2 hS ⊢
                  have hP := hP2.sub (ws' := (wd_90cd99f9 h0 v0 r0 v1 v2 v3 v4 r1 r2 r3 r4 r5 r6 r7 v5 v6 r8 r9 r10 r11 v7 h1 r12 v8 v9 h2 r13 v10 v11 r14 v12 v13 r15 v14 w15 r16 x22 x23 h3 h4 r17 r18 r19 r20 v18 r21 r22 r23 v19 h1 g0 f20 h2 g1 f21 h3 g2 fn46 h4 g3 fn45)) [3, 0, 4, 1, 2] rfl
                  have hD := hD2.sub (ws' := (wd_90cd99f9 h0 v0 r0 v1 v2 v3 v4 r1 r2 r3 r4 r5 r6 r7 v5 v6 r8 r9 r10 r11 v7 h1 r12 v8 v9 h2 r13 v10 v11 r14 v12 v13 r15 v14 w15 r16 x22 x23 h3 h4 r17 r18 r19 r20 v18 r21 r22 r23 v19 h1 g0 f20 h2 g1 f21 h3 g2 fn46 h4 g3 fn45)) [3, 0, 4, 1, 2] (by decide) rfl
                  clear hP2 hD2
                  have hJ53 : ∀ (x52 : Int32) (H : Heap) (locs : List Loc) (ls : Array Slot), 0 ≤ x52.toInt → x52.toInt ≤ 1 → va_P (dC, dI) vwCl (wd_90cd99f9 h0 v0 r0 v1 v2 v3 v4 r1 r2 r3 r4 r5 r6 r7 v5 v6 r8 r9 r10 r11 v7 h1 r12 v8 v9 h2 r13 v10 v11 r14 v12 v13 r15 v14 w15 r16 x22 x23 h3 h4 r17 r18 r19 r20 v18 r21 r22 r23 v19 h1 g0 f20 h2 g1 f21 h3 g2 fn46 h4 g3 fn45) H → va_D A (wd_90cd99f9 h0 v0 r0 v1 v2 v3 v4 r1 r2 r3 r4 r5 r6 r7 v5 v6 r8 r9 r10 r11 v7 h1 r12 v8 v9 h2 r13 v10 v11 r14 v12 v13 r15 v14 w15 r16 x22 x23 h3 h4 r17 r18 r19 r20 v18 r21 r22 r23 v19 h1 g0 f20 h2 g1 f21 h3 g2 fn46 h4 g3 fn45) → va_S A s.heap H locs → lv_has ls 7 [(6, .int x21), (5, .int x4), (0, .ref h0), (1, .int 3), (2, .int v24), (3, .int v25), (4, .int v26)] → W p l e ({ frames := 8, cells := 0, slots := 0, locals := 192 }) s m ([.ref h0, .int 3, .int v24, .int v25, .int v26] : List Value).toArray below meth c H locs 0 0 Q (F0 m 180 ls [.int x52, .int v25, .int t49, .int 4, .ref h0]) := by
                    intro x52 H locs ls qa_x52 qb_x52 hP hD hS hl
                    refine lv_iadd hx hb dX12_tryShelf_180 ?_
                    refine lv_topi (fun t54 et54 => ?_)
                    refine lv_iload hx hb dX12_tryShelf_181 (lv_at hl 6 rfl) ?_
                    have hPc := hP.sub (ws' := (wd_90cd99f9 h0 v0 r0 v1 v2 v3 v4 r1 r2 r3 r4 r5 r6 r7 v5 v6 r8 r9 r10 r11 v7 h1 r12 v8 v9 h2 r13 v10 v11 r14 v12 v13 r15 v14 w15 r16 x22 x23 h3 h4 r17 r18 r19 r20 v18 r21 r22 r23 v19 h1 g0 f20 h2 g1 f21 h3 g2 fn46 h4 g3 fn45)) [0, 1, 2, 3, 4] rfl
                    have hDc := hD.sub (ws' := (wd_90cd99f9 h0 v0 r0 v1 v2 v3 v4 r1 r2 r3 r4 r5 r6 r7 v5 v6 r8 r9 r10 r11 v7 h1 r12 v8 v9 h2 r13 v10 v11 r14 v12 v13 r15 v14 w15 r16 x22 x23 h3 h4 r17 r18 r19 r20 v18 r21 r22 r23 v19 h1 g0 f20 h2 g1 f21 h3 g2 fn46 h4 g3 fn45)) [0, 1, 2, 3, 4] (by decide) rfl
                    have hKc := hK.sub (tys' := [(g0, .int), (g1, .int), (g2, .int), (g3, .int)]) [0, 1, 2, 3] rfl
                    have hFc := va_free (wc := (wd_90cd99f9 h0 v0 r0 v1 v2 v3 v4 r1 r2 r3 r4 r5 r6 r7 v5 v6 r8 r9 r10 r11 v7 h1 r12 v8 v9 h2 r13 v10 v11 r14 v12 v13 r15 v14 w15 r16 x22 x23 h3 h4 r17 r18 r19 r20 v18 r21 r22 r23 v19 h1 g0 f20 h2 g1 f21 h3 g2 fn46 h4 g3 fn45)) hD hS hA [0, 1, 2, 3, 4] rfl
                    refine va_callv (va_runV (As := [.int 4, .int t49, .int t54, .int v26]) (rest := []) ⟨hx, hb, hml, hown, hts⟩ (k_X12_tryShelf_4 l dC dI h0 h1 h2 h3 h4 v0 r0 v1 v2 v3 v4 r1 r2 r3 r4 r5 r6 r7 v5 v6 r8 r9 r10 r11 v7 r12 v8 v9 r13 v10 v11 r14 v12 v13 r15 v14 w15 r16 x22 x23 r17 r18 r19 r20 v18 r21 r22 r23 v19 g0 f20 g1 f21 g2 fn46 g3 fn45 t49 t54 v26 ⟨i_v1a, i_v1b⟩ ⟨i_v5a, i_v5b⟩ ⟨i_v6a, i_v6b⟩ ⟨i_v7a, i_v7b⟩ ⟨i_v8a, i_v8b⟩ ⟨i_v9a, i_v9b⟩ ⟨i_v10a, i_v10b⟩ ⟨i_v14a, i_v14b⟩ ⟨i_v18a, i_v18b⟩ ⟨i_v19a, i_v19b⟩ ⟨i_v26a, i_v26b⟩ ia_f20 ia_f21 H.size) (cwV 4 hts g_X12_tryShelf_5_4 rfl rfl rfl (by decide +kernel) ⟨Nat.le_of_ble_eq_true rfl, Nat.le_of_ble_eq_true rfl⟩) (pv_PV12 hPc hKc hDc (q0 := 0) rfl) rfl rfl hl.1 rfl (lv_room (Nat.le_of_ble_eq_true rfl)) dX12_tryShelf_183 ⟨Nat.le_of_ble_eq_true rfl, Nat.le_of_ble_eq_true rfl⟩) hS (fun q _ h => hFc q h) hFc (fun u t H1 locs ht hvm hwra55 hB hz1 hk1 hS => ?_)
                    obtain ⟨x56, x57, fn58, fn59, hP1, hK1, hD1⟩ := hB
                    rw [ht] at hP1
                    obtain ⟨hP2, hD2⟩ := va_join (wr := []) (w1 := (wd_90cd99f9 h0 v0 r0 v1 v2 v3 v4 r1 r2 r3 r4 r5 r6 r7 v5 v6 r8 r9 r10 r11 v7 h1 r12 v8 v9 h2 r13 v10 v11 r14 v12 v13 r15 v14 w15 r16 x56 x57 h3 h4 r17 r18 r19 r20 v18 r21 r22 r23 v19 h1 g0 f20 h2 g1 f21 h3 g2 fn58 h4 g3 fn59)) hP hD [0, 1, 2, 3, 4] [] rfl rfl (by decide) (by decide) hk1 hFc hP1 hD1
                    clear hP hD hPc hDc hKc hFc hP1 hK1 hD1 hk1 hz1
                    generalize H1 = H at hP2 hS ⊢
                    have hP : va_P (dC, dI) vwCl (wd_90cd99f9 h0 v0 r0 v1 v2 v3 v4 r1 r2 r3 r4 r5 r6 r7 v5 v6 r8 r9 r10 r11 v7 h1 r12 v8 v9 h2 r13 v10 v11 r14 v12 v13 r15 v14 w15 r16 x56 x57 h3 h4 r17 r18 r19 r20 v18 r21 r22 r23 v19 h1 g0 f20 h2 g1 f21 h3 g2 fn58 h4 g3 fn59) H := hP2
                    have hD : va_D A (wd_90cd99f9 h0 v0 r0 v1 v2 v3 v4 r1 r2 r3 r4 r5 r6 r7 v5 v6 r8 r9 r10 r11 v7 h1 r12 v8 v9 h2 r13 v10 v11 r14 v12 v13 r15 v14 w15 r16 x56 x57 h3 h4 r17 r18 r19 r20 v18 r21 r22 r23 v19 h1 g0 f20 h2 g1 f21 h3 g2 fn58 h4 g3 fn59) := hD2
                    clear hP2 hD2
                    refine lv_aload_n hx hb dX12_tryShelf_186 rfl (lv_at hl 2 rfl) ?_
                    refine va_get (D := (dC, dI)) (ci := 12) (v := .ref h4) (C := RX12) (T := TX12) (N := 48) hx hb hts (fun _ h => List.mem_cons_of_mem _ (List.mem_append_right _ h)) hown hK hP 0 rfl rfl 38 (by decide) (hts (.fieldLink RX12 77 "LeftArgumentsModel" "room" "[I") (List.mem_cons_of_mem _ (List.mem_append_left _ (List.mem_of_getElem? (i := 31) rfl)))) (fun _ h9 => h9) rfl dX12_tryShelf_187 ?_
                    refine lv_iload hx hb dX12_tryShelf_190 (lv_at hl 0 rfl) ?_
                    refine lv_dup2_11 hx hb dX12_tryShelf_192 rfl rfl ?_
                    refine va_iald hx hb hK hP 4 3 rfl rfl (vp_in_iff.mpr ⟨by omega, by omega⟩) dX12_tryShelf_193 ?_
                    refine lv_topi (fun t60 et60 => ?_)
                    refine lv_aload_n hx hb dX12_tryShelf_194 rfl (lv_at hl 2 rfl) ?_
                    refine lv_iload_n hx hb dX12_tryShelf_195 rfl (lv_at hl 3 rfl) ?_
                    refine lv_iconst (v := 0) hx hb dX12_tryShelf_196 (by decide) ?_
                    have hPc := hP.sub (ws' := (wd_5013416a h0 v0 r0 v1 v2 v3 v4 r1 r2 r3 r4 r5 r6 r7 v5 v6 r8 r9 r10 r11 v7 h1 r12 v8 v9 h2 r13 v10 v11 r14 v12 v13 r15 v14 w15 r16 x56 x57 h3 h4 r17 r18 r19 r20 v18 r21 r22 r23 v19 h2 g1 f21)) [0, 2] rfl
                    have hDc := hD.sub (ws' := (wd_5013416a h0 v0 r0 v1 v2 v3 v4 r1 r2 r3 r4 r5 r6 r7 v5 v6 r8 r9 r10 r11 v7 h1 r12 v8 v9 h2 r13 v10 v11 r14 v12 v13 r15 v14 w15 r16 x56 x57 h3 h4 r17 r18 r19 r20 v18 r21 r22 r23 v19 h2 g1 f21)) [0, 2] (by decide) rfl
                    have hKc := hK.sub (tys' := [(g1, .int)]) [1] rfl
                    have hFc := va_free (wc := (wd_5013416a h0 v0 r0 v1 v2 v3 v4 r1 r2 r3 r4 r5 r6 r7 v5 v6 r8 r9 r10 r11 v7 h1 r12 v8 v9 h2 r13 v10 v11 r14 v12 v13 r15 v14 w15 r16 x56 x57 h3 h4 r17 r18 r19 r20 v18 r21 r22 r23 v19 h2 g1 f21)) hD hS hA [0, 2] rfl
                    refine va_calli (va_runV (As := [.int 3, .int 0]) (rest := [.int t60, .int x21, .ref h4]) ⟨hx, hb, hml, hown, hts⟩ (k_X12_of_3 l dC dI h0 h2 v0 r0 v1 v2 v3 v4 r1 r2 r3 r4 r5 r6 r7 v5 v6 r8 r9 r10 r11 v7 h1 r12 v8 v9 r13 v10 v11 r14 v12 v13 r15 v14 w15 r16 x56 x57 h3 h4 r17 r18 r19 r20 v18 r21 r22 r23 v19 g1 f21 3 ⟨i_v1a, i_v1b⟩ ⟨i_v5a, i_v5b⟩ ⟨i_v6a, i_v6b⟩ ⟨i_v7a, i_v7b⟩ ⟨i_v8a, i_v8b⟩ ⟨i_v9a, i_v9b⟩ ⟨i_v10a, i_v10b⟩ ⟨i_v14a, i_v14b⟩ ⟨i_v18a, i_v18b⟩ ⟨i_v19a, i_v19b⟩ ⟨by decide, by decide⟩ ia_f21.1 H.size) (cwV 2 hts g_X12_tryShelf_5_2 rfl rfl rfl (by decide +kernel) ⟨Nat.le_of_ble_eq_true rfl, Nat.le_of_ble_eq_true rfl⟩) (pv_PV12 hPc hKc hDc (q0 := 0) rfl) rfl rfl hl.1 rfl (lv_room (Nat.le_of_ble_eq_true rfl)) dX12_tryShelf_197 ⟨Nat.le_of_ble_eq_true rfl, Nat.le_of_ble_eq_true rfl⟩) hS (fun q _ h => hFc q h) hFc (fun ra61 u t H1 locs ht hvm hwra61 hB hz1 hk1 hS => ?_)
                    try rw [hwra61] at hB
                    have hkra61_0 : ((3 : Int32)).toInt = 3 := by decide
                    obtain ⟨pt0_ra61, pt1_ra61, pt2_ra61, hP1, hK1, hD1⟩ := hB
                    rw [ht] at hP1
                    obtain ⟨hP2, hD2⟩ := va_join (wr := (wd_20b67a68 h1 g0 f20 h3 g2 fn58 h4 g3 fn59)) (w1 := (wd_5013416a h0 v0 r0 v1 v2 v3 v4 r1 r2 r3 r4 r5 r6 r7 v5 v6 r8 r9 r10 r11 v7 h1 r12 v8 v9 h2 r13 v10 v11 r14 v12 v13 r15 v14 w15 r16 x56 x57 h3 h4 r17 r18 r19 r20 v18 r21 r22 r23 v19 h2 g1 f21)) hP hD [0, 2] [1, 3, 4] rfl rfl (by decide) (by decide) hk1 hFc hP1 hD1
                    clear hP hD hPc hDc hKc hFc hP1 hK1 hD1 hk1 hz1
                    generalize H1 = H at hP2 hS ⊢
                    have hP := hP2.sub (ws' := (wd_90cd99f9 h0 v0 r0 v1 v2 v3 v4 r1 r2 r3 r4 r5 r6 r7 v5 v6 r8 r9 r10 r11 v7 h1 r12 v8 v9 h2 r13 v10 v11 r14 v12 v13 r15 v14 w15 r16 x56 x57 h3 h4 r17 r18 r19 r20 v18 r21 r22 r23 v19 h1 g0 f20 h2 g1 f21 h3 g2 fn58 h4 g3 fn59)) [3, 0, 4, 1, 2] rfl
                    have hD := hD2.sub (ws' := (wd_90cd99f9 h0 v0 r0 v1 v2 v3 v4 r1 r2 r3 r4 r5 r6 r7 v5 v6 r8 r9 r10 r11 v7 h1 r12 v8 v9 h2 r13 v10 v11 r14 v12 v13 r15 v14 w15 r16 x56 x57 h3 h4 r17 r18 r19 r20 v18 r21 r22 r23 v19 h1 g0 f20 h2 g1 f21 h3 g2 fn58 h4 g3 fn59)) [3, 0, 4, 1, 2] (by decide) rfl
                    clear hP2 hD2
                    refine lv_isub hx hb dX12_tryShelf_200 ?_
                    refine lv_topi (fun t62 et62 => ?_)
                    refine va_iast hx hb hK hP hD hS 4 3 rfl rfl (vp_in_iff.mpr ⟨by omega, by omega⟩) dX12_tryShelf_201 (fun H locs hP hD hS => ?_)
                    obtain ⟨fn63, efn63⟩ : ∃ g : Nat → Int32, g = upd fn59 (Int32.toNatClampNeg x21) t62 := ⟨_, rfl⟩
                    rw [← efn63] at hP hD
                    have hP : va_P (dC, dI) vwCl (wd_90cd99f9 h0 v0 r0 v1 v2 v3 v4 r1 r2 r3 r4 r5 r6 r7 v5 v6 r8 r9 r10 r11 v7 h1 r12 v8 v9 h2 r13 v10 v11 r14 v12 v13 r15 v14 w15 r16 x56 x57 h3 h4 r17 r18 r19 r20 v18 r21 r22 r23 v19 h1 g0 f20 h2 g1 f21 h3 g2 fn58 h4 g3 fn63) H := hP
                    have hD : va_D A (wd_90cd99f9 h0 v0 r0 v1 v2 v3 v4 r1 r2 r3 r4 r5 r6 r7 v5 v6 r8 r9 r10 r11 v7 h1 r12 v8 v9 h2 r13 v10 v11 r14 v12 v13 r15 v14 w15 r16 x56 x57 h3 h4 r17 r18 r19 r20 v18 r21 r22 r23 v19 h1 g0 f20 h2 g1 f21 h3 g2 fn58 h4 g3 fn63) := hD
                    exact hJ37 x56 x57 fn58 fn63 H locs ls hP hD hS (lv_sub hl [0, 1, 2, 3, 4, 5, 6] rfl)
                  refine lv_icmp_ne (tgt := 179) hx hb dX12_tryShelf_172 (by decide) (fun c64 => ?_) (fun c64 => ?_)
                  · skip
                    have fc64 : ¬ (t50.toInt = ra51.toInt) := fun h9 => c64 (Int32.toInt_inj.mp h9)
                    have r1c64 := Int32.toInt_lt t50
                    have r2c64 := Int32.toInt_lt ra51
                    have r3c64 := Int32.le_toInt t50
                    have r4c64 := Int32.le_toInt ra51
                    refine lv_iconst (v := 0) hx hb dX12_tryShelf_179 (by decide) ?_
                    exact hJ53 0 H locs ls (by decide) (by decide) hP hD hS (lv_sub hl [0, 1, 2, 3, 4, 5, 6] rfl)
                  · skip
                    have fc64 : t50.toInt = ra51.toInt := congrArg Int32.toInt c64
                    have r1c64 := Int32.toInt_lt t50
                    have r2c64 := Int32.toInt_lt ra51
                    have r3c64 := Int32.le_toInt t50
                    have r4c64 := Int32.le_toInt ra51
                    refine lv_iconst (v := 1) hx hb dX12_tryShelf_175 (by decide) ?_
                    refine lv_goto (tgt := 180) hx hb dX12_tryShelf_176 (by decide) ?_
                    exact hJ53 1 H locs ls (by decide) (by decide) hP hD hS (lv_sub hl [0, 1, 2, 3, 4, 5, 6] rfl)
              · skip
                have fc39 : ¬ (v26.toInt = 0) := fun h9 => c39 (Int32.toInt_inj.mp h9)
                refine lv_aload_n hx hb dX12_tryShelf_87 rfl (lv_at hl 2 rfl) ?_
                refine va_get (D := (dC, dI)) (ci := 12) (v := .ref h4) (C := RX12) (T := TX12) (N := 48) hx hb hts (fun _ h => List.mem_cons_of_mem _ (List.mem_append_right _ h)) hown hK hP 0 rfl rfl 38 (by decide) (hts (.fieldLink RX12 77 "LeftArgumentsModel" "room" "[I") (List.mem_cons_of_mem _ (List.mem_append_left _ (List.mem_of_getElem? (i := 31) rfl)))) (fun _ h9 => h9) rfl dX12_tryShelf_88 ?_
                refine lv_iload hx hb dX12_tryShelf_91 (lv_at hl 0 rfl) ?_
                refine va_iald hx hb hK hP 4 3 rfl rfl (vp_in_iff.mpr ⟨by omega, by omega⟩) dX12_tryShelf_93 ?_
                refine lv_topi (fun t65 et65 => ?_)
                refine lv_aload_n hx hb dX12_tryShelf_94 rfl (lv_at hl 2 rfl) ?_
                refine lv_iload_n hx hb dX12_tryShelf_95 rfl (lv_at hl 3 rfl) ?_
                refine lv_iconst (v := 0) hx hb dX12_tryShelf_96 (by decide) ?_
                have hPc := hP.sub (ws' := (wd_5013416a h0 v0 r0 v1 v2 v3 v4 r1 r2 r3 r4 r5 r6 r7 v5 v6 r8 r9 r10 r11 v7 h1 r12 v8 v9 h2 r13 v10 v11 r14 v12 v13 r15 v14 w15 r16 x22 x23 h3 h4 r17 r18 r19 r20 v18 r21 r22 r23 v19 h2 g1 f21)) [0, 2] rfl
                have hDc := hD.sub (ws' := (wd_5013416a h0 v0 r0 v1 v2 v3 v4 r1 r2 r3 r4 r5 r6 r7 v5 v6 r8 r9 r10 r11 v7 h1 r12 v8 v9 h2 r13 v10 v11 r14 v12 v13 r15 v14 w15 r16 x22 x23 h3 h4 r17 r18 r19 r20 v18 r21 r22 r23 v19 h2 g1 f21)) [0, 2] (by decide) rfl
                have hKc := hK.sub (tys' := [(g1, .int)]) [1] rfl
                have hFc := va_free (wc := (wd_5013416a h0 v0 r0 v1 v2 v3 v4 r1 r2 r3 r4 r5 r6 r7 v5 v6 r8 r9 r10 r11 v7 h1 r12 v8 v9 h2 r13 v10 v11 r14 v12 v13 r15 v14 w15 r16 x22 x23 h3 h4 r17 r18 r19 r20 v18 r21 r22 r23 v19 h2 g1 f21)) hD hS hA [0, 2] rfl
                refine va_calli (va_runV (As := [.int 3, .int 0]) (rest := [.int t65]) ⟨hx, hb, hml, hown, hts⟩ (k_X12_of_3 l dC dI h0 h2 v0 r0 v1 v2 v3 v4 r1 r2 r3 r4 r5 r6 r7 v5 v6 r8 r9 r10 r11 v7 h1 r12 v8 v9 r13 v10 v11 r14 v12 v13 r15 v14 w15 r16 x22 x23 h3 h4 r17 r18 r19 r20 v18 r21 r22 r23 v19 g1 f21 3 ⟨i_v1a, i_v1b⟩ ⟨i_v5a, i_v5b⟩ ⟨i_v6a, i_v6b⟩ ⟨i_v7a, i_v7b⟩ ⟨i_v8a, i_v8b⟩ ⟨i_v9a, i_v9b⟩ ⟨i_v10a, i_v10b⟩ ⟨i_v14a, i_v14b⟩ ⟨i_v18a, i_v18b⟩ ⟨i_v19a, i_v19b⟩ ⟨by decide, by decide⟩ ia_f21.1 H.size) (cwV 2 hts g_X12_tryShelf_5_2 rfl rfl rfl (by decide +kernel) ⟨Nat.le_of_ble_eq_true rfl, Nat.le_of_ble_eq_true rfl⟩) (pv_PV12 hPc hKc hDc (q0 := 0) rfl) rfl rfl hl.1 rfl (lv_room (Nat.le_of_ble_eq_true rfl)) dX12_tryShelf_97 ⟨Nat.le_of_ble_eq_true rfl, Nat.le_of_ble_eq_true rfl⟩) hS (fun q _ h => hFc q h) hFc (fun ra66 u t H1 locs ht hvm hwra66 hB hz1 hk1 hS => ?_)
                try rw [hwra66] at hB
                have hkra66_0 : ((3 : Int32)).toInt = 3 := by decide
                obtain ⟨pt0_ra66, pt1_ra66, pt2_ra66, hP1, hK1, hD1⟩ := hB
                rw [ht] at hP1
                obtain ⟨hP2, hD2⟩ := va_join (wr := (wd_20b67a68 h1 g0 f20 h3 g2 fn24 h4 g3 fn25)) (w1 := (wd_5013416a h0 v0 r0 v1 v2 v3 v4 r1 r2 r3 r4 r5 r6 r7 v5 v6 r8 r9 r10 r11 v7 h1 r12 v8 v9 h2 r13 v10 v11 r14 v12 v13 r15 v14 w15 r16 x22 x23 h3 h4 r17 r18 r19 r20 v18 r21 r22 r23 v19 h2 g1 f21)) hP hD [0, 2] [1, 3, 4] rfl rfl (by decide) (by decide) hk1 hFc hP1 hD1
                clear hP hD hPc hDc hKc hFc hP1 hK1 hD1 hk1 hz1
                generalize H1 = H at hP2 hS ⊢
                have hP := hP2.sub (ws' := (wd_90cd99f9 h0 v0 r0 v1 v2 v3 v4 r1 r2 r3 r4 r5 r6 r7 v5 v6 r8 r9 r10 r11 v7 h1 r12 v8 v9 h2 r13 v10 v11 r14 v12 v13 r15 v14 w15 r16 x22 x23 h3 h4 r17 r18 r19 r20 v18 r21 r22 r23 v19 h1 g0 f20 h2 g1 f21 h3 g2 fn24 h4 g3 fn25)) [3, 0, 4, 1, 2] rfl
                have hD := hD2.sub (ws' := (wd_90cd99f9 h0 v0 r0 v1 v2 v3 v4 r1 r2 r3 r4 r5 r6 r7 v5 v6 r8 r9 r10 r11 v7 h1 r12 v8 v9 h2 r13 v10 v11 r14 v12 v13 r15 v14 w15 r16 x22 x23 h3 h4 r17 r18 r19 r20 v18 r21 r22 r23 v19 h1 g0 f20 h2 g1 f21 h3 g2 fn24 h4 g3 fn25)) [3, 0, 4, 1, 2] (by decide) rfl
                clear hP2 hD2
                refine lv_iadd hx hb dX12_tryShelf_100 ?_
                refine lv_topi (fun t67 et67 => ?_)
                refine lv_aload_n hx hb dX12_tryShelf_101 rfl (lv_at hl 2 rfl) ?_
                refine va_get (D := (dC, dI)) (ci := 12) (v := .ref h1) (C := RX12) (T := TX12) (N := 48) hx hb hts (fun _ h => List.mem_cons_of_mem _ (List.mem_append_right _ h)) hown hK hP 0 rfl rfl 20 (by decide) (hts (.fieldLink RX12 46 "LeftArgumentsModel" "rule" "[I") (List.mem_cons_of_mem _ (List.mem_append_left _ (List.mem_of_getElem? (i := 37) rfl)))) (fun _ h9 => h9) rfl dX12_tryShelf_102 ?_
                refine lv_iconst (v := 0) hx hb dX12_tryShelf_105 (by decide) ?_
                refine va_iald hx hb hK hP 1 0 rfl rfl (pv_c (x := 0) (n := 4) (by decide)) dX12_tryShelf_106 ?_
                refine lv_topi (fun t68 et68 => ?_)
                have gat68 : 0 ≤ t68.toInt := by rw [et68]; exact ia_f20.2
                refine lv_icmp_gt (tgt := 202) hx hb dX12_tryShelf_107 (by decide) (fun c69 => ?_) (fun c69 => ?_)
                · skip
                  have fc69 : t68.toInt < t67.toInt := Int32.lt_iff_toInt_lt.mp c69
                  have r1c69 := Int32.toInt_lt t67
                  have r2c69 := Int32.toInt_lt t68
                  have r3c69 := Int32.le_toInt t67
                  have r4c69 := Int32.le_toInt t68
                  exact hJ37 x22 x23 fn24 fn25 H locs ls hP hD hS (lv_sub hl [0, 1, 2, 3, 4, 5, 6] rfl)
                · skip
                  have fc69 : ¬ (t68.toInt < t67.toInt) := fun h9 => c69 (Int32.lt_iff_toInt_lt.mpr h9)
                  have r1c69 := Int32.toInt_lt t67
                  have r2c69 := Int32.toInt_lt t68
                  have r3c69 := Int32.le_toInt t67
                  have r4c69 := Int32.le_toInt t68
                  refine lv_goto (tgt := 123) hx hb dX12_tryShelf_110 (by decide) ?_
                  refine lv_aload_n hx hb dX12_tryShelf_123 rfl (lv_at hl 2 rfl) ?_
                  refine va_get (D := (dC, dI)) (ci := 12) (v := .ref h4) (C := RX12) (T := TX12) (N := 48) hx hb hts (fun _ h => List.mem_cons_of_mem _ (List.mem_append_right _ h)) hown hK hP 0 rfl rfl 38 (by decide) (hts (.fieldLink RX12 77 "LeftArgumentsModel" "room" "[I") (List.mem_cons_of_mem _ (List.mem_append_left _ (List.mem_of_getElem? (i := 31) rfl)))) (fun _ h9 => h9) rfl dX12_tryShelf_124 ?_
                  refine lv_iload hx hb dX12_tryShelf_127 (lv_at hl 0 rfl) ?_
                  refine lv_dup2_11 hx hb dX12_tryShelf_129 rfl rfl ?_
                  refine va_iald hx hb hK hP 4 3 rfl rfl (vp_in_iff.mpr ⟨by omega, by omega⟩) dX12_tryShelf_130 ?_
                  refine lv_topi (fun t70 et70 => ?_)
                  have gmt70 : t70.toInt = t65.toInt := by rw [et70, et65]
                  refine lv_aload_n hx hb dX12_tryShelf_131 rfl (lv_at hl 2 rfl) ?_
                  refine lv_iload_n hx hb dX12_tryShelf_132 rfl (lv_at hl 3 rfl) ?_
                  refine lv_iconst (v := 0) hx hb dX12_tryShelf_133 (by decide) ?_
                  have hPc := hP.sub (ws' := (wd_5013416a h0 v0 r0 v1 v2 v3 v4 r1 r2 r3 r4 r5 r6 r7 v5 v6 r8 r9 r10 r11 v7 h1 r12 v8 v9 h2 r13 v10 v11 r14 v12 v13 r15 v14 w15 r16 x22 x23 h3 h4 r17 r18 r19 r20 v18 r21 r22 r23 v19 h2 g1 f21)) [0, 2] rfl
                  have hDc := hD.sub (ws' := (wd_5013416a h0 v0 r0 v1 v2 v3 v4 r1 r2 r3 r4 r5 r6 r7 v5 v6 r8 r9 r10 r11 v7 h1 r12 v8 v9 h2 r13 v10 v11 r14 v12 v13 r15 v14 w15 r16 x22 x23 h3 h4 r17 r18 r19 r20 v18 r21 r22 r23 v19 h2 g1 f21)) [0, 2] (by decide) rfl
                  have hKc := hK.sub (tys' := [(g1, .int)]) [1] rfl
                  have hFc := va_free (wc := (wd_5013416a h0 v0 r0 v1 v2 v3 v4 r1 r2 r3 r4 r5 r6 r7 v5 v6 r8 r9 r10 r11 v7 h1 r12 v8 v9 h2 r13 v10 v11 r14 v12 v13 r15 v14 w15 r16 x22 x23 h3 h4 r17 r18 r19 r20 v18 r21 r22 r23 v19 h2 g1 f21)) hD hS hA [0, 2] rfl
                  refine va_calli (va_runV (As := [.int 3, .int 0]) (rest := [.int t70, .int x21, .ref h4]) ⟨hx, hb, hml, hown, hts⟩ (k_X12_of_3 l dC dI h0 h2 v0 r0 v1 v2 v3 v4 r1 r2 r3 r4 r5 r6 r7 v5 v6 r8 r9 r10 r11 v7 h1 r12 v8 v9 r13 v10 v11 r14 v12 v13 r15 v14 w15 r16 x22 x23 h3 h4 r17 r18 r19 r20 v18 r21 r22 r23 v19 g1 f21 3 ⟨i_v1a, i_v1b⟩ ⟨i_v5a, i_v5b⟩ ⟨i_v6a, i_v6b⟩ ⟨i_v7a, i_v7b⟩ ⟨i_v8a, i_v8b⟩ ⟨i_v9a, i_v9b⟩ ⟨i_v10a, i_v10b⟩ ⟨i_v14a, i_v14b⟩ ⟨i_v18a, i_v18b⟩ ⟨i_v19a, i_v19b⟩ ⟨by decide, by decide⟩ ia_f21.1 H.size) (cwV 2 hts g_X12_tryShelf_5_2 rfl rfl rfl (by decide +kernel) ⟨Nat.le_of_ble_eq_true rfl, Nat.le_of_ble_eq_true rfl⟩) (pv_PV12 hPc hKc hDc (q0 := 0) rfl) rfl rfl hl.1 rfl (lv_room (Nat.le_of_ble_eq_true rfl)) dX12_tryShelf_134 ⟨Nat.le_of_ble_eq_true rfl, Nat.le_of_ble_eq_true rfl⟩) hS (fun q _ h => hFc q h) hFc (fun ra71 u t H1 locs ht hvm hwra71 hB hz1 hk1 hS => ?_)
                  try rw [hwra71] at hB
                  have hkra71_0 : ((3 : Int32)).toInt = 3 := by decide
                  obtain ⟨pt0_ra71, pt1_ra71, pt2_ra71, hP1, hK1, hD1⟩ := hB
                  rw [ht] at hP1
                  obtain ⟨hP2, hD2⟩ := va_join (wr := (wd_20b67a68 h1 g0 f20 h3 g2 fn24 h4 g3 fn25)) (w1 := (wd_5013416a h0 v0 r0 v1 v2 v3 v4 r1 r2 r3 r4 r5 r6 r7 v5 v6 r8 r9 r10 r11 v7 h1 r12 v8 v9 h2 r13 v10 v11 r14 v12 v13 r15 v14 w15 r16 x22 x23 h3 h4 r17 r18 r19 r20 v18 r21 r22 r23 v19 h2 g1 f21)) hP hD [0, 2] [1, 3, 4] rfl rfl (by decide) (by decide) hk1 hFc hP1 hD1
                  clear hP hD hPc hDc hKc hFc hP1 hK1 hD1 hk1 hz1
                  generalize H1 = H at hP2 hS ⊢
                  have hP := hP2.sub (ws' := (wd_90cd99f9 h0 v0 r0 v1 v2 v3 v4 r1 r2 r3 r4 r5 r6 r7 v5 v6 r8 r9 r10 r11 v7 h1 r12 v8 v9 h2 r13 v10 v11 r14 v12 v13 r15 v14 w15 r16 x22 x23 h3 h4 r17 r18 r19 r20 v18 r21 r22 r23 v19 h1 g0 f20 h2 g1 f21 h3 g2 fn24 h4 g3 fn25)) [3, 0, 4, 1, 2] rfl
                  have hD := hD2.sub (ws' := (wd_90cd99f9 h0 v0 r0 v1 v2 v3 v4 r1 r2 r3 r4 r5 r6 r7 v5 v6 r8 r9 r10 r11 v7 h1 r12 v8 v9 h2 r13 v10 v11 r14 v12 v13 r15 v14 w15 r16 x22 x23 h3 h4 r17 r18 r19 r20 v18 r21 r22 r23 v19 h1 g0 f20 h2 g1 f21 h3 g2 fn24 h4 g3 fn25)) [3, 0, 4, 1, 2] (by decide) rfl
                  clear hP2 hD2
                  refine lv_iadd hx hb dX12_tryShelf_137 ?_
                  refine lv_topi (fun t72 et72 => ?_)
                  refine va_iast hx hb hK hP hD hS 4 3 rfl rfl (vp_in_iff.mpr ⟨by omega, by omega⟩) dX12_tryShelf_138 (fun H locs hP hD hS => ?_)
                  obtain ⟨fn73, efn73⟩ : ∃ g : Nat → Int32, g = upd fn25 (Int32.toNatClampNeg x21) t72 := ⟨_, rfl⟩
                  rw [← efn73] at hP hD
                  have hP : va_P (dC, dI) vwCl (wd_90cd99f9 h0 v0 r0 v1 v2 v3 v4 r1 r2 r3 r4 r5 r6 r7 v5 v6 r8 r9 r10 r11 v7 h1 r12 v8 v9 h2 r13 v10 v11 r14 v12 v13 r15 v14 w15 r16 x22 x23 h3 h4 r17 r18 r19 r20 v18 r21 r22 r23 v19 h1 g0 f20 h2 g1 f21 h3 g2 fn24 h4 g3 fn73) H := hP
                  have hD : va_D A (wd_90cd99f9 h0 v0 r0 v1 v2 v3 v4 r1 r2 r3 r4 r5 r6 r7 v5 v6 r8 r9 r10 r11 v7 h1 r12 v8 v9 h2 r13 v10 v11 r14 v12 v13 r15 v14 w15 r16 x22 x23 h3 h4 r17 r18 r19 r20 v18 r21 r22 r23 v19 h1 g0 f20 h2 g1 f21 h3 g2 fn24 h4 g3 fn73) := hD
                  refine lv_aload_n hx hb dX12_tryShelf_139 rfl (lv_at hl 2 rfl) ?_
                  refine va_get (D := (dC, dI)) (ci := 12) (v := .ref h3) (C := RX12) (T := TX12) (N := 48) hx hb hts (fun _ h => List.mem_cons_of_mem _ (List.mem_append_right _ h)) hown hK hP 0 rfl rfl 37 (by decide) (hts (.fieldLink RX12 74 "LeftArgumentsModel" "onShelf" "[I") (List.mem_cons_of_mem _ (List.mem_append_left _ (List.mem_of_getElem? (i := 15) rfl)))) (fun _ h9 => h9) rfl dX12_tryShelf_140 ?_
                  refine lv_iload_n hx hb dX12_tryShelf_143 rfl (lv_at hl 3 rfl) ?_
                  refine lv_iload hx hb dX12_tryShelf_144 (lv_at hl 0 rfl) ?_
                  refine va_iast hx hb hK hP hD hS 3 2 rfl rfl (pv_c (x := 3) (n := 8) (by decide)) dX12_tryShelf_146 (fun H locs hP hD hS => ?_)
                  obtain ⟨fn74, efn74⟩ : ∃ g : Nat → Int32, g = upd fn24 (Int32.toNatClampNeg 3) x21 := ⟨_, rfl⟩
                  rw [← efn74] at hP hD
                  have hP : va_P (dC, dI) vwCl (wd_90cd99f9 h0 v0 r0 v1 v2 v3 v4 r1 r2 r3 r4 r5 r6 r7 v5 v6 r8 r9 r10 r11 v7 h1 r12 v8 v9 h2 r13 v10 v11 r14 v12 v13 r15 v14 w15 r16 x22 x23 h3 h4 r17 r18 r19 r20 v18 r21 r22 r23 v19 h1 g0 f20 h2 g1 f21 h3 g2 fn74 h4 g3 fn73) H := hP
                  have hD : va_D A (wd_90cd99f9 h0 v0 r0 v1 v2 v3 v4 r1 r2 r3 r4 r5 r6 r7 v5 v6 r8 r9 r10 r11 v7 h1 r12 v8 v9 h2 r13 v10 v11 r14 v12 v13 r15 v14 w15 r16 x22 x23 h3 h4 r17 r18 r19 r20 v18 r21 r22 r23 v19 h1 g0 f20 h2 g1 f21 h3 g2 fn74 h4 g3 fn73) := hD
                  refine lv_aload_n hx hb dX12_tryShelf_147 rfl (lv_at hl 2 rfl) ?_
                  refine lv_iload_n hx hb dX12_tryShelf_148 rfl (lv_at hl 3 rfl) ?_
                  refine lv_iconst (v := 1) hx hb dX12_tryShelf_149 (by decide) ?_
                  refine lv_iadd hx hb dX12_tryShelf_150 ?_
                  refine lv_topi (fun tv75 etv75 => ?_)
                  obtain rfl : tv75 = (4 : Int32) := etv75.trans (by first | rfl | decide)
                  refine lv_bipush (v := 10) hx hb dX12_tryShelf_151 (by decide) ?_
                  refine lv_iload_n hx hb dX12_tryShelf_153 rfl (lv_at hl 4 rfl) ?_
                  refine lv_imul hx hb dX12_tryShelf_154 ?_
                  refine lv_topi (fun t76 et76 => ?_)
                  refine lv_iload hx hb dX12_tryShelf_155 (lv_at hl 0 rfl) ?_
                  refine lv_iadd hx hb dX12_tryShelf_157 ?_
                  refine lv_topi (fun t77 et77 => ?_)
                  refine lv_iload_n hx hb dX12_tryShelf_158 rfl (lv_at hl 5 rfl) ?_
                  refine lv_aload_n hx hb dX12_tryShelf_159 rfl (lv_at hl 2 rfl) ?_
                  refine va_get (D := (dC, dI)) (ci := 12) (v := .ref h4) (C := RX12) (T := TX12) (N := 48) hx hb hts (fun _ h => List.mem_cons_of_mem _ (List.mem_append_right _ h)) hown hK hP 0 rfl rfl 38 (by decide) (hts (.fieldLink RX12 77 "LeftArgumentsModel" "room" "[I") (List.mem_cons_of_mem _ (List.mem_append_left _ (List.mem_of_getElem? (i := 31) rfl)))) (fun _ h9 => h9) rfl dX12_tryShelf_160 ?_
                  refine lv_iload hx hb dX12_tryShelf_163 (lv_at hl 0 rfl) ?_
                  refine va_iald hx hb hK hP 4 3 rfl rfl (vp_in_iff.mpr ⟨by omega, by omega⟩) dX12_tryShelf_165 ?_
                  refine lv_topi (fun t78 et78 => ?_)
                  refine lv_aload_n hx hb dX12_tryShelf_166 rfl (lv_at hl 2 rfl) ?_
                  refine lv_iload_n hx hb dX12_tryShelf_167 rfl (lv_at hl 3 rfl) ?_
                  refine lv_iconst (v := 0) hx hb dX12_tryShelf_168 (by decide) ?_
                  have hPc := hP.sub (ws' := (wd_5013416a h0 v0 r0 v1 v2 v3 v4 r1 r2 r3 r4 r5 r6 r7 v5 v6 r8 r9 r10 r11 v7 h1 r12 v8 v9 h2 r13 v10 v11 r14 v12 v13 r15 v14 w15 r16 x22 x23 h3 h4 r17 r18 r19 r20 v18 r21 r22 r23 v19 h2 g1 f21)) [0, 2] rfl
                  have hDc := hD.sub (ws' := (wd_5013416a h0 v0 r0 v1 v2 v3 v4 r1 r2 r3 r4 r5 r6 r7 v5 v6 r8 r9 r10 r11 v7 h1 r12 v8 v9 h2 r13 v10 v11 r14 v12 v13 r15 v14 w15 r16 x22 x23 h3 h4 r17 r18 r19 r20 v18 r21 r22 r23 v19 h2 g1 f21)) [0, 2] (by decide) rfl
                  have hKc := hK.sub (tys' := [(g1, .int)]) [1] rfl
                  have hFc := va_free (wc := (wd_5013416a h0 v0 r0 v1 v2 v3 v4 r1 r2 r3 r4 r5 r6 r7 v5 v6 r8 r9 r10 r11 v7 h1 r12 v8 v9 h2 r13 v10 v11 r14 v12 v13 r15 v14 w15 r16 x22 x23 h3 h4 r17 r18 r19 r20 v18 r21 r22 r23 v19 h2 g1 f21)) hD hS hA [0, 2] rfl
                  refine va_calli (va_runV (As := [.int 3, .int 0]) (rest := [.int t78, .int v25, .int t77, .int 4, .ref h0]) ⟨hx, hb, hml, hown, hts⟩ (k_X12_of_3 l dC dI h0 h2 v0 r0 v1 v2 v3 v4 r1 r2 r3 r4 r5 r6 r7 v5 v6 r8 r9 r10 r11 v7 h1 r12 v8 v9 r13 v10 v11 r14 v12 v13 r15 v14 w15 r16 x22 x23 h3 h4 r17 r18 r19 r20 v18 r21 r22 r23 v19 g1 f21 3 ⟨i_v1a, i_v1b⟩ ⟨i_v5a, i_v5b⟩ ⟨i_v6a, i_v6b⟩ ⟨i_v7a, i_v7b⟩ ⟨i_v8a, i_v8b⟩ ⟨i_v9a, i_v9b⟩ ⟨i_v10a, i_v10b⟩ ⟨i_v14a, i_v14b⟩ ⟨i_v18a, i_v18b⟩ ⟨i_v19a, i_v19b⟩ ⟨by decide, by decide⟩ ia_f21.1 H.size) (cwV 2 hts g_X12_tryShelf_5_2 rfl rfl rfl (by decide +kernel) ⟨Nat.le_of_ble_eq_true rfl, Nat.le_of_ble_eq_true rfl⟩) (pv_PV12 hPc hKc hDc (q0 := 0) rfl) rfl rfl hl.1 rfl (lv_room (Nat.le_of_ble_eq_true rfl)) dX12_tryShelf_169 ⟨Nat.le_of_ble_eq_true rfl, Nat.le_of_ble_eq_true rfl⟩) hS (fun q _ h => hFc q h) hFc (fun ra79 u t H1 locs ht hvm hwra79 hB hz1 hk1 hS => ?_)
                  try rw [hwra79] at hB
                  have hkra79_0 : ((3 : Int32)).toInt = 3 := by decide
                  obtain ⟨pt0_ra79, pt1_ra79, pt2_ra79, hP1, hK1, hD1⟩ := hB
                  rw [ht] at hP1
                  obtain ⟨hP2, hD2⟩ := va_join (wr := (wd_20b67a68 h1 g0 f20 h3 g2 fn74 h4 g3 fn73)) (w1 := (wd_5013416a h0 v0 r0 v1 v2 v3 v4 r1 r2 r3 r4 r5 r6 r7 v5 v6 r8 r9 r10 r11 v7 h1 r12 v8 v9 h2 r13 v10 v11 r14 v12 v13 r15 v14 w15 r16 x22 x23 h3 h4 r17 r18 r19 r20 v18 r21 r22 r23 v19 h2 g1 f21)) hP hD [0, 2] [1, 3, 4] rfl rfl (by decide) (by decide) hk1 hFc hP1 hD1
                  clear hP hD hPc hDc hKc hFc hP1 hK1 hD1 hk1 hz1
                  generalize H1 = H at hP2 hS ⊢
                  have hP := hP2.sub (ws' := (wd_90cd99f9 h0 v0 r0 v1 v2 v3 v4 r1 r2 r3 r4 r5 r6 r7 v5 v6 r8 r9 r10 r11 v7 h1 r12 v8 v9 h2 r13 v10 v11 r14 v12 v13 r15 v14 w15 r16 x22 x23 h3 h4 r17 r18 r19 r20 v18 r21 r22 r23 v19 h1 g0 f20 h2 g1 f21 h3 g2 fn74 h4 g3 fn73)) [3, 0, 4, 1, 2] rfl
                  have hD := hD2.sub (ws' := (wd_90cd99f9 h0 v0 r0 v1 v2 v3 v4 r1 r2 r3 r4 r5 r6 r7 v5 v6 r8 r9 r10 r11 v7 h1 r12 v8 v9 h2 r13 v10 v11 r14 v12 v13 r15 v14 w15 r16 x22 x23 h3 h4 r17 r18 r19 r20 v18 r21 r22 r23 v19 h1 g0 f20 h2 g1 f21 h3 g2 fn74 h4 g3 fn73)) [3, 0, 4, 1, 2] (by decide) rfl
                  clear hP2 hD2
                  have hJ81 : ∀ (x80 : Int32) (H : Heap) (locs : List Loc) (ls : Array Slot), 0 ≤ x80.toInt → x80.toInt ≤ 1 → va_P (dC, dI) vwCl (wd_90cd99f9 h0 v0 r0 v1 v2 v3 v4 r1 r2 r3 r4 r5 r6 r7 v5 v6 r8 r9 r10 r11 v7 h1 r12 v8 v9 h2 r13 v10 v11 r14 v12 v13 r15 v14 w15 r16 x22 x23 h3 h4 r17 r18 r19 r20 v18 r21 r22 r23 v19 h1 g0 f20 h2 g1 f21 h3 g2 fn74 h4 g3 fn73) H → va_D A (wd_90cd99f9 h0 v0 r0 v1 v2 v3 v4 r1 r2 r3 r4 r5 r6 r7 v5 v6 r8 r9 r10 r11 v7 h1 r12 v8 v9 h2 r13 v10 v11 r14 v12 v13 r15 v14 w15 r16 x22 x23 h3 h4 r17 r18 r19 r20 v18 r21 r22 r23 v19 h1 g0 f20 h2 g1 f21 h3 g2 fn74 h4 g3 fn73) → va_S A s.heap H locs → lv_has ls 7 [(6, .int x21), (5, .int x4), (0, .ref h0), (1, .int 3), (2, .int v24), (3, .int v25), (4, .int v26)] → W p l e ({ frames := 8, cells := 0, slots := 0, locals := 192 }) s m ([.ref h0, .int 3, .int v24, .int v25, .int v26] : List Value).toArray below meth c H locs 0 0 Q (F0 m 180 ls [.int x80, .int v25, .int t77, .int 4, .ref h0]) := by
                    intro x80 H locs ls qa_x80 qb_x80 hP hD hS hl
                    refine lv_iadd hx hb dX12_tryShelf_180 ?_
                    refine lv_topi (fun t82 et82 => ?_)
                    refine lv_iload hx hb dX12_tryShelf_181 (lv_at hl 6 rfl) ?_
                    have hPc := hP.sub (ws' := (wd_90cd99f9 h0 v0 r0 v1 v2 v3 v4 r1 r2 r3 r4 r5 r6 r7 v5 v6 r8 r9 r10 r11 v7 h1 r12 v8 v9 h2 r13 v10 v11 r14 v12 v13 r15 v14 w15 r16 x22 x23 h3 h4 r17 r18 r19 r20 v18 r21 r22 r23 v19 h1 g0 f20 h2 g1 f21 h3 g2 fn74 h4 g3 fn73)) [0, 1, 2, 3, 4] rfl
                    have hDc := hD.sub (ws' := (wd_90cd99f9 h0 v0 r0 v1 v2 v3 v4 r1 r2 r3 r4 r5 r6 r7 v5 v6 r8 r9 r10 r11 v7 h1 r12 v8 v9 h2 r13 v10 v11 r14 v12 v13 r15 v14 w15 r16 x22 x23 h3 h4 r17 r18 r19 r20 v18 r21 r22 r23 v19 h1 g0 f20 h2 g1 f21 h3 g2 fn74 h4 g3 fn73)) [0, 1, 2, 3, 4] (by decide) rfl
                    have hKc := hK.sub (tys' := [(g0, .int), (g1, .int), (g2, .int), (g3, .int)]) [0, 1, 2, 3] rfl
                    have hFc := va_free (wc := (wd_90cd99f9 h0 v0 r0 v1 v2 v3 v4 r1 r2 r3 r4 r5 r6 r7 v5 v6 r8 r9 r10 r11 v7 h1 r12 v8 v9 h2 r13 v10 v11 r14 v12 v13 r15 v14 w15 r16 x22 x23 h3 h4 r17 r18 r19 r20 v18 r21 r22 r23 v19 h1 g0 f20 h2 g1 f21 h3 g2 fn74 h4 g3 fn73)) hD hS hA [0, 1, 2, 3, 4] rfl
                    refine va_callv (va_runV (As := [.int 4, .int t77, .int t82, .int v26]) (rest := []) ⟨hx, hb, hml, hown, hts⟩ (k_X12_tryShelf_4 l dC dI h0 h1 h2 h3 h4 v0 r0 v1 v2 v3 v4 r1 r2 r3 r4 r5 r6 r7 v5 v6 r8 r9 r10 r11 v7 r12 v8 v9 r13 v10 v11 r14 v12 v13 r15 v14 w15 r16 x22 x23 r17 r18 r19 r20 v18 r21 r22 r23 v19 g0 f20 g1 f21 g2 fn74 g3 fn73 t77 t82 v26 ⟨i_v1a, i_v1b⟩ ⟨i_v5a, i_v5b⟩ ⟨i_v6a, i_v6b⟩ ⟨i_v7a, i_v7b⟩ ⟨i_v8a, i_v8b⟩ ⟨i_v9a, i_v9b⟩ ⟨i_v10a, i_v10b⟩ ⟨i_v14a, i_v14b⟩ ⟨i_v18a, i_v18b⟩ ⟨i_v19a, i_v19b⟩ ⟨i_v26a, i_v26b⟩ ia_f20 ia_f21 H.size) (cwV 4 hts g_X12_tryShelf_5_4 rfl rfl rfl (by decide +kernel) ⟨Nat.le_of_ble_eq_true rfl, Nat.le_of_ble_eq_true rfl⟩) (pv_PV12 hPc hKc hDc (q0 := 0) rfl) rfl rfl hl.1 rfl (lv_room (Nat.le_of_ble_eq_true rfl)) dX12_tryShelf_183 ⟨Nat.le_of_ble_eq_true rfl, Nat.le_of_ble_eq_true rfl⟩) hS (fun q _ h => hFc q h) hFc (fun u t H1 locs ht hvm hwra83 hB hz1 hk1 hS => ?_)
                    obtain ⟨x84, x85, fn86, fn87, hP1, hK1, hD1⟩ := hB
                    rw [ht] at hP1
                    obtain ⟨hP2, hD2⟩ := va_join (wr := []) (w1 := (wd_90cd99f9 h0 v0 r0 v1 v2 v3 v4 r1 r2 r3 r4 r5 r6 r7 v5 v6 r8 r9 r10 r11 v7 h1 r12 v8 v9 h2 r13 v10 v11 r14 v12 v13 r15 v14 w15 r16 x84 x85 h3 h4 r17 r18 r19 r20 v18 r21 r22 r23 v19 h1 g0 f20 h2 g1 f21 h3 g2 fn86 h4 g3 fn87)) hP hD [0, 1, 2, 3, 4] [] rfl rfl (by decide) (by decide) hk1 hFc hP1 hD1
                    clear hP hD hPc hDc hKc hFc hP1 hK1 hD1 hk1 hz1
                    generalize H1 = H at hP2 hS ⊢
                    have hP : va_P (dC, dI) vwCl (wd_90cd99f9 h0 v0 r0 v1 v2 v3 v4 r1 r2 r3 r4 r5 r6 r7 v5 v6 r8 r9 r10 r11 v7 h1 r12 v8 v9 h2 r13 v10 v11 r14 v12 v13 r15 v14 w15 r16 x84 x85 h3 h4 r17 r18 r19 r20 v18 r21 r22 r23 v19 h1 g0 f20 h2 g1 f21 h3 g2 fn86 h4 g3 fn87) H := hP2
                    have hD : va_D A (wd_90cd99f9 h0 v0 r0 v1 v2 v3 v4 r1 r2 r3 r4 r5 r6 r7 v5 v6 r8 r9 r10 r11 v7 h1 r12 v8 v9 h2 r13 v10 v11 r14 v12 v13 r15 v14 w15 r16 x84 x85 h3 h4 r17 r18 r19 r20 v18 r21 r22 r23 v19 h1 g0 f20 h2 g1 f21 h3 g2 fn86 h4 g3 fn87) := hD2
                    clear hP2 hD2
                    refine lv_aload_n hx hb dX12_tryShelf_186 rfl (lv_at hl 2 rfl) ?_
                    refine va_get (D := (dC, dI)) (ci := 12) (v := .ref h4) (C := RX12) (T := TX12) (N := 48) hx hb hts (fun _ h => List.mem_cons_of_mem _ (List.mem_append_right _ h)) hown hK hP 0 rfl rfl 38 (by decide) (hts (.fieldLink RX12 77 "LeftArgumentsModel" "room" "[I") (List.mem_cons_of_mem _ (List.mem_append_left _ (List.mem_of_getElem? (i := 31) rfl)))) (fun _ h9 => h9) rfl dX12_tryShelf_187 ?_
                    refine lv_iload hx hb dX12_tryShelf_190 (lv_at hl 0 rfl) ?_
                    refine lv_dup2_11 hx hb dX12_tryShelf_192 rfl rfl ?_
                    refine va_iald hx hb hK hP 4 3 rfl rfl (vp_in_iff.mpr ⟨by omega, by omega⟩) dX12_tryShelf_193 ?_
                    refine lv_topi (fun t88 et88 => ?_)
                    refine lv_aload_n hx hb dX12_tryShelf_194 rfl (lv_at hl 2 rfl) ?_
                    refine lv_iload_n hx hb dX12_tryShelf_195 rfl (lv_at hl 3 rfl) ?_
                    refine lv_iconst (v := 0) hx hb dX12_tryShelf_196 (by decide) ?_
                    have hPc := hP.sub (ws' := (wd_5013416a h0 v0 r0 v1 v2 v3 v4 r1 r2 r3 r4 r5 r6 r7 v5 v6 r8 r9 r10 r11 v7 h1 r12 v8 v9 h2 r13 v10 v11 r14 v12 v13 r15 v14 w15 r16 x84 x85 h3 h4 r17 r18 r19 r20 v18 r21 r22 r23 v19 h2 g1 f21)) [0, 2] rfl
                    have hDc := hD.sub (ws' := (wd_5013416a h0 v0 r0 v1 v2 v3 v4 r1 r2 r3 r4 r5 r6 r7 v5 v6 r8 r9 r10 r11 v7 h1 r12 v8 v9 h2 r13 v10 v11 r14 v12 v13 r15 v14 w15 r16 x84 x85 h3 h4 r17 r18 r19 r20 v18 r21 r22 r23 v19 h2 g1 f21)) [0, 2] (by decide) rfl
                    have hKc := hK.sub (tys' := [(g1, .int)]) [1] rfl
                    have hFc := va_free (wc := (wd_5013416a h0 v0 r0 v1 v2 v3 v4 r1 r2 r3 r4 r5 r6 r7 v5 v6 r8 r9 r10 r11 v7 h1 r12 v8 v9 h2 r13 v10 v11 r14 v12 v13 r15 v14 w15 r16 x84 x85 h3 h4 r17 r18 r19 r20 v18 r21 r22 r23 v19 h2 g1 f21)) hD hS hA [0, 2] rfl
                    refine va_calli (va_runV (As := [.int 3, .int 0]) (rest := [.int t88, .int x21, .ref h4]) ⟨hx, hb, hml, hown, hts⟩ (k_X12_of_3 l dC dI h0 h2 v0 r0 v1 v2 v3 v4 r1 r2 r3 r4 r5 r6 r7 v5 v6 r8 r9 r10 r11 v7 h1 r12 v8 v9 r13 v10 v11 r14 v12 v13 r15 v14 w15 r16 x84 x85 h3 h4 r17 r18 r19 r20 v18 r21 r22 r23 v19 g1 f21 3 ⟨i_v1a, i_v1b⟩ ⟨i_v5a, i_v5b⟩ ⟨i_v6a, i_v6b⟩ ⟨i_v7a, i_v7b⟩ ⟨i_v8a, i_v8b⟩ ⟨i_v9a, i_v9b⟩ ⟨i_v10a, i_v10b⟩ ⟨i_v14a, i_v14b⟩ ⟨i_v18a, i_v18b⟩ ⟨i_v19a, i_v19b⟩ ⟨by decide, by decide⟩ ia_f21.1 H.size) (cwV 2 hts g_X12_tryShelf_5_2 rfl rfl rfl (by decide +kernel) ⟨Nat.le_of_ble_eq_true rfl, Nat.le_of_ble_eq_true rfl⟩) (pv_PV12 hPc hKc hDc (q0 := 0) rfl) rfl rfl hl.1 rfl (lv_room (Nat.le_of_ble_eq_true rfl)) dX12_tryShelf_197 ⟨Nat.le_of_ble_eq_true rfl, Nat.le_of_ble_eq_true rfl⟩) hS (fun q _ h => hFc q h) hFc (fun ra89 u t H1 locs ht hvm hwra89 hB hz1 hk1 hS => ?_)
                    try rw [hwra89] at hB
                    have hkra89_0 : ((3 : Int32)).toInt = 3 := by decide
                    obtain ⟨pt0_ra89, pt1_ra89, pt2_ra89, hP1, hK1, hD1⟩ := hB
                    rw [ht] at hP1
                    obtain ⟨hP2, hD2⟩ := va_join (wr := (wd_20b67a68 h1 g0 f20 h3 g2 fn86 h4 g3 fn87)) (w1 := (wd_5013416a h0 v0 r0 v1 v2 v3 v4 r1 r2 r3 r4 r5 r6 r7 v5 v6 r8 r9 r10 r11 v7 h1 r12 v8 v9 h2 r13 v10 v11 r14 v12 v13 r15 v14 w15 r16 x84 x85 h3 h4 r17 r18 r19 r20 v18 r21 r22 r23 v19 h2 g1 f21)) hP hD [0, 2] [1, 3, 4] rfl rfl (by decide) (by decide) hk1 hFc hP1 hD1
                    clear hP hD hPc hDc hKc hFc hP1 hK1 hD1 hk1 hz1
                    generalize H1 = H at hP2 hS ⊢
                    have hP := hP2.sub (ws' := (wd_90cd99f9 h0 v0 r0 v1 v2 v3 v4 r1 r2 r3 r4 r5 r6 r7 v5 v6 r8 r9 r10 r11 v7 h1 r12 v8 v9 h2 r13 v10 v11 r14 v12 v13 r15 v14 w15 r16 x84 x85 h3 h4 r17 r18 r19 r20 v18 r21 r22 r23 v19 h1 g0 f20 h2 g1 f21 h3 g2 fn86 h4 g3 fn87)) [3, 0, 4, 1, 2] rfl
                    have hD := hD2.sub (ws' := (wd_90cd99f9 h0 v0 r0 v1 v2 v3 v4 r1 r2 r3 r4 r5 r6 r7 v5 v6 r8 r9 r10 r11 v7 h1 r12 v8 v9 h2 r13 v10 v11 r14 v12 v13 r15 v14 w15 r16 x84 x85 h3 h4 r17 r18 r19 r20 v18 r21 r22 r23 v19 h1 g0 f20 h2 g1 f21 h3 g2 fn86 h4 g3 fn87)) [3, 0, 4, 1, 2] (by decide) rfl
                    clear hP2 hD2
                    refine lv_isub hx hb dX12_tryShelf_200 ?_
                    refine lv_topi (fun t90 et90 => ?_)
                    refine va_iast hx hb hK hP hD hS 4 3 rfl rfl (vp_in_iff.mpr ⟨by omega, by omega⟩) dX12_tryShelf_201 (fun H locs hP hD hS => ?_)
                    obtain ⟨fn91, efn91⟩ : ∃ g : Nat → Int32, g = upd fn87 (Int32.toNatClampNeg x21) t90 := ⟨_, rfl⟩
                    rw [← efn91] at hP hD
                    have hP : va_P (dC, dI) vwCl (wd_90cd99f9 h0 v0 r0 v1 v2 v3 v4 r1 r2 r3 r4 r5 r6 r7 v5 v6 r8 r9 r10 r11 v7 h1 r12 v8 v9 h2 r13 v10 v11 r14 v12 v13 r15 v14 w15 r16 x84 x85 h3 h4 r17 r18 r19 r20 v18 r21 r22 r23 v19 h1 g0 f20 h2 g1 f21 h3 g2 fn86 h4 g3 fn91) H := hP
                    have hD : va_D A (wd_90cd99f9 h0 v0 r0 v1 v2 v3 v4 r1 r2 r3 r4 r5 r6 r7 v5 v6 r8 r9 r10 r11 v7 h1 r12 v8 v9 h2 r13 v10 v11 r14 v12 v13 r15 v14 w15 r16 x84 x85 h3 h4 r17 r18 r19 r20 v18 r21 r22 r23 v19 h1 g0 f20 h2 g1 f21 h3 g2 fn86 h4 g3 fn91) := hD
                    exact hJ37 x84 x85 fn86 fn91 H locs ls hP hD hS (lv_sub hl [0, 1, 2, 3, 4, 5, 6] rfl)
                  refine lv_icmp_ne (tgt := 179) hx hb dX12_tryShelf_172 (by decide) (fun c92 => ?_) (fun c92 => ?_)
                  · skip
                    have fc92 : ¬ (t78.toInt = ra79.toInt) := fun h9 => c92 (Int32.toInt_inj.mp h9)
                    have r1c92 := Int32.toInt_lt t78
                    have r2c92 := Int32.toInt_lt ra79
                    have r3c92 := Int32.le_toInt t78
                    have r4c92 := Int32.le_toInt ra79
                    refine lv_iconst (v := 0) hx hb dX12_tryShelf_179 (by decide) ?_
                    exact hJ81 0 H locs ls (by decide) (by decide) hP hD hS (lv_sub hl [0, 1, 2, 3, 4, 5, 6] rfl)
                  · skip
                    have fc92 : t78.toInt = ra79.toInt := congrArg Int32.toInt c92
                    have r1c92 := Int32.toInt_lt t78
                    have r2c92 := Int32.toInt_lt ra79
                    have r3c92 := Int32.le_toInt t78
                    have r4c92 := Int32.le_toInt ra79
                    refine lv_iconst (v := 1) hx hb dX12_tryShelf_175 (by decide) ?_
                    refine lv_goto (tgt := 180) hx hb dX12_tryShelf_176 (by decide) ?_
                    exact hJ81 1 H locs ls (by decide) (by decide) hP hD hS (lv_sub hl [0, 1, 2, 3, 4, 5, 6] rfl)
        exact hL31 _ 0 v16 v17 f22 f23 H locs ls (by decide) (by decide) (Nat.lt_succ_self _) hP hD hS (lv_sub hl [0, 1, 2, 3, 4, 5, 6] rfl)
      refine lv_if_eq (tgt := 68) hx hb dX12_tryShelf_56 (by decide) (fun c93 => ?_) (fun c93 => ?_)
      · skip
        have fc93 : v26.toInt = 0 := congrArg Int32.toInt c93
        refine lv_bipush (v := 8) hx hb dX12_tryShelf_68 (by decide) ?_
        exact hJ5 8 H locs ls (by decide) (by decide) hP hD hS (lv_sub hl [0, 1, 2, 3, 4] rfl)
      · skip
        have fc93 : ¬ (v26.toInt = 0) := fun h9 => c93 (Int32.toInt_inj.mp h9)
        refine lv_aload_n hx hb dX12_tryShelf_59 rfl (lv_at hl 0 rfl) ?_
        refine va_get (D := (dC, dI)) (ci := 12) (v := .ref h1) (C := RX12) (T := TX12) (N := 48) hx hb hts (fun _ h => List.mem_cons_of_mem _ (List.mem_append_right _ h)) hown hK hP 0 rfl rfl 20 (by decide) (hts (.fieldLink RX12 46 "LeftArgumentsModel" "rule" "[I") (List.mem_cons_of_mem _ (List.mem_append_left _ (List.mem_of_getElem? (i := 37) rfl)))) (fun _ h9 => h9) rfl dX12_tryShelf_60 ?_
        refine lv_iconst (v := 1) hx hb dX12_tryShelf_63 (by decide) ?_
        refine va_iald hx hb hK hP 1 0 rfl rfl (pv_c (x := 1) (n := 4) (by decide)) dX12_tryShelf_64 ?_
        refine lv_topi (fun t94 et94 => ?_)
        have gat94 : 0 ≤ t94.toInt ∧ t94.toInt ≤ 5 := by rw [et94]; exact ia_f20.1
        refine lv_goto (tgt := 70) hx hb dX12_tryShelf_65 (by decide) ?_
        exact hJ5 t94 H locs ls (by first | omega | decide) (by first | omega | decide) hP hD hS (lv_sub hl [0, 1, 2, 3, 4] rfl)
    · skip
      have fc3 : ra2.toInt = 0 := congrArg Int32.toInt c3
      have q0wra2 := wra2 (by omega)
      refine lv_aload_n hx hb dX12_tryShelf_42 rfl (lv_at hl 0 rfl) ?_
      refine lv_iload_n hx hb dX12_tryShelf_43 rfl (lv_at hl 1 rfl) ?_
      refine lv_iconst (v := 1) hx hb dX12_tryShelf_44 (by decide) ?_
      refine lv_iadd hx hb dX12_tryShelf_45 ?_
      refine lv_topi (fun tv95 etv95 => ?_)
      obtain rfl : tv95 = (4 : Int32) := etv95.trans (by first | rfl | decide)
      refine lv_iload_n hx hb dX12_tryShelf_46 rfl (lv_at hl 2 rfl) ?_
      refine lv_iload_n hx hb dX12_tryShelf_47 rfl (lv_at hl 3 rfl) ?_
      refine lv_iload hx hb dX12_tryShelf_48 (lv_at hl 4 rfl) ?_
      have hPc := hP.sub (ws' := (wd_90cd99f9 h0 v0 r0 v1 v2 v3 v4 r1 r2 r3 r4 r5 r6 r7 v5 v6 r8 r9 r10 r11 v7 h1 r12 v8 v9 h2 r13 v10 v11 r14 v12 v13 r15 v14 w15 r16 v16 v17 h3 h4 r17 r18 r19 r20 v18 r21 r22 r23 v19 h1 g0 f20 h2 g1 f21 h3 g2 f22 h4 g3 f23)) [0, 1, 2, 3, 4] rfl
      have hDc := hD.sub (ws' := (wd_90cd99f9 h0 v0 r0 v1 v2 v3 v4 r1 r2 r3 r4 r5 r6 r7 v5 v6 r8 r9 r10 r11 v7 h1 r12 v8 v9 h2 r13 v10 v11 r14 v12 v13 r15 v14 w15 r16 v16 v17 h3 h4 r17 r18 r19 r20 v18 r21 r22 r23 v19 h1 g0 f20 h2 g1 f21 h3 g2 f22 h4 g3 f23)) [0, 1, 2, 3, 4] (by decide) rfl
      have hKc := hK.sub (tys' := [(g0, .int), (g1, .int), (g2, .int), (g3, .int)]) [0, 1, 2, 3] rfl
      have hFc := va_free (wc := (wd_90cd99f9 h0 v0 r0 v1 v2 v3 v4 r1 r2 r3 r4 r5 r6 r7 v5 v6 r8 r9 r10 r11 v7 h1 r12 v8 v9 h2 r13 v10 v11 r14 v12 v13 r15 v14 w15 r16 v16 v17 h3 h4 r17 r18 r19 r20 v18 r21 r22 r23 v19 h1 g0 f20 h2 g1 f21 h3 g2 f22 h4 g3 f23)) hD hS hA [0, 1, 2, 3, 4] rfl
      refine va_callv (va_runV (As := [.int 4, .int v24, .int v25, .int v26]) (rest := []) ⟨hx, hb, hml, hown, hts⟩ (k_X12_tryShelf_4 l dC dI h0 h1 h2 h3 h4 v0 r0 v1 v2 v3 v4 r1 r2 r3 r4 r5 r6 r7 v5 v6 r8 r9 r10 r11 v7 r12 v8 v9 r13 v10 v11 r14 v12 v13 r15 v14 w15 r16 v16 v17 r17 r18 r19 r20 v18 r21 r22 r23 v19 g0 f20 g1 f21 g2 f22 g3 f23 v24 v25 v26 ⟨i_v1a, i_v1b⟩ ⟨i_v5a, i_v5b⟩ ⟨i_v6a, i_v6b⟩ ⟨i_v7a, i_v7b⟩ ⟨i_v8a, i_v8b⟩ ⟨i_v9a, i_v9b⟩ ⟨i_v10a, i_v10b⟩ ⟨i_v14a, i_v14b⟩ ⟨i_v18a, i_v18b⟩ ⟨i_v19a, i_v19b⟩ ⟨i_v26a, i_v26b⟩ ia_f20 ia_f21 H.size) (cwV 4 hts g_X12_tryShelf_5_4 rfl rfl rfl (by decide +kernel) ⟨Nat.le_of_ble_eq_true rfl, Nat.le_of_ble_eq_true rfl⟩) (pv_PV12 hPc hKc hDc (q0 := 0) rfl) rfl rfl hl.1 rfl (lv_room (Nat.le_of_ble_eq_true rfl)) dX12_tryShelf_50 ⟨Nat.le_of_ble_eq_true rfl, Nat.le_of_ble_eq_true rfl⟩) hS (fun q _ h => hFc q h) hFc (fun u t H1 locs ht hvm hwra96 hB hz1 hk1 hS => ?_)
      obtain ⟨x97, x98, fn99, fn100, hP1, hK1, hD1⟩ := hB
      rw [ht] at hP1
      obtain ⟨hP2, hD2⟩ := va_join (wr := []) (w1 := (wd_90cd99f9 h0 v0 r0 v1 v2 v3 v4 r1 r2 r3 r4 r5 r6 r7 v5 v6 r8 r9 r10 r11 v7 h1 r12 v8 v9 h2 r13 v10 v11 r14 v12 v13 r15 v14 w15 r16 x97 x98 h3 h4 r17 r18 r19 r20 v18 r21 r22 r23 v19 h1 g0 f20 h2 g1 f21 h3 g2 fn99 h4 g3 fn100)) hP hD [0, 1, 2, 3, 4] [] rfl rfl (by decide) (by decide) hk1 hFc hP1 hD1
      clear hP hD hPc hDc hKc hFc hP1 hK1 hD1 hk1 hz1
      generalize H1 = H at hP2 hS ⊢
      have hP : va_P (dC, dI) vwCl (wd_90cd99f9 h0 v0 r0 v1 v2 v3 v4 r1 r2 r3 r4 r5 r6 r7 v5 v6 r8 r9 r10 r11 v7 h1 r12 v8 v9 h2 r13 v10 v11 r14 v12 v13 r15 v14 w15 r16 x97 x98 h3 h4 r17 r18 r19 r20 v18 r21 r22 r23 v19 h1 g0 f20 h2 g1 f21 h3 g2 fn99 h4 g3 fn100) H := hP2
      have hD : va_D A (wd_90cd99f9 h0 v0 r0 v1 v2 v3 v4 r1 r2 r3 r4 r5 r6 r7 v5 v6 r8 r9 r10 r11 v7 h1 r12 v8 v9 h2 r13 v10 v11 r14 v12 v13 r15 v14 w15 r16 x97 x98 h3 h4 r17 r18 r19 r20 v18 r21 r22 r23 v19 h1 g0 f20 h2 g1 f21 h3 g2 fn99 h4 g3 fn100) := hD2
      clear hP2 hD2
      subst hQ
      have hP9 := hP.sub (ws' := (wd_90cd99f9 h0 v0 r0 v1 v2 v3 v4 r1 r2 r3 r4 r5 r6 r7 v5 v6 r8 r9 r10 r11 v7 h1 r12 v8 v9 h2 r13 v10 v11 r14 v12 v13 r15 v14 w15 r16 x97 x98 h3 h4 r17 r18 r19 r20 v18 r21 r22 r23 v19 h1 g0 f20 h2 g1 f21 h3 g2 fn99 h4 g3 fn100)) [0, 1, 2, 3, 4] rfl
      have hD9 := hD.sub (ws' := (wd_90cd99f9 h0 v0 r0 v1 v2 v3 v4 r1 r2 r3 r4 r5 r6 r7 v5 v6 r8 r9 r10 r11 v7 h1 r12 v8 v9 h2 r13 v10 v11 r14 v12 v13 r15 v14 w15 r16 x97 x98 h3 h4 r17 r18 r19 r20 v18 r21 r22 r23 v19 h1 g0 f20 h2 g1 f21 h3 g2 fn99 h4 g3 fn100)) [0, 1, 2, 3, 4] (by decide) rfl
      have hK9 := hK.sub (tys' := []) [] rfl
      exact W.vret hx hb hr (fun t ht hW => ⟨⟨(), rfl, trivial, ⟨x97, x98, fn99, fn100, by rw [ht]; exact hP9, va_K.moved hW.alike hK9, hD9⟩⟩, hS.F ht⟩) hS.2.2 dX12_tryShelf_53
  · skip
    have fc1 : ¬ (v16.toInt = (-1)) := fun h9 => c1 (Int32.toInt_inj.mp h9)
    refine lv_iload_n hx hb dX12_tryShelf_8 rfl (lv_at hl 3 rfl) ?_
    refine lv_aload_n hx hb dX12_tryShelf_9 rfl (lv_at hl 0 rfl) ?_
    refine va_get (D := (dC, dI)) (ci := 12) (v := .int v17) (C := RX12) (T := TX12) (N := 48) hx hb hts (fun _ h => List.mem_cons_of_mem _ (List.mem_append_right _ h)) hown hK hP 0 rfl rfl 36 (by decide) (hts (.fieldLink RX12 391 "LeftArgumentsModel" "bestMany" "I") (List.mem_cons_of_mem _ (List.mem_append_left _ (List.mem_of_getElem? (i := 33) rfl)))) (fun _ h9 => h9) rfl dX12_tryShelf_10 ?_
    refine lv_icmp_lt (tgt := 17) hx hb dX12_tryShelf_13 (by decide) (fun c101 => ?_) (fun c101 => ?_)
    · skip
      have fc101 : v25.toInt < v17.toInt := Int32.lt_iff_toInt_lt.mp c101
      have r1c101 := Int32.toInt_lt v25
      have r2c101 := Int32.toInt_lt v17
      have r3c101 := Int32.le_toInt v25
      have r4c101 := Int32.le_toInt v17
      refine lv_iload_n hx hb dX12_tryShelf_17 rfl (lv_at hl 1 rfl) ?_
      refine lv_bipush (v := 8) hx hb dX12_tryShelf_18 (by decide) ?_
      refine lv_icmp_ne (tgt := 34) hx hb dX12_tryShelf_20 (by decide) (fun _ => ?_) (fun c => absurd c (by decide))
      refine lv_aload_n hx hb dX12_tryShelf_34 rfl (lv_at hl 0 rfl) ?_
      refine lv_iload_n hx hb dX12_tryShelf_35 rfl (lv_at hl 1 rfl) ?_
      have hPc := hP.sub (ws' := (wd_5013416a h0 v0 r0 v1 v2 v3 v4 r1 r2 r3 r4 r5 r6 r7 v5 v6 r8 r9 r10 r11 v7 h1 r12 v8 v9 h2 r13 v10 v11 r14 v12 v13 r15 v14 w15 r16 v16 v17 h3 h4 r17 r18 r19 r20 v18 r21 r22 r23 v19 h2 g1 f21)) [0, 2] rfl
      have hDc := hD.sub (ws' := (wd_5013416a h0 v0 r0 v1 v2 v3 v4 r1 r2 r3 r4 r5 r6 r7 v5 v6 r8 r9 r10 r11 v7 h1 r12 v8 v9 h2 r13 v10 v11 r14 v12 v13 r15 v14 w15 r16 v16 v17 h3 h4 r17 r18 r19 r20 v18 r21 r22 r23 v19 h2 g1 f21)) [0, 2] (by decide) rfl
      have hKc := hK.sub (tys' := [(g1, .int)]) [1] rfl
      have hFc := va_free (wc := (wd_5013416a h0 v0 r0 v1 v2 v3 v4 r1 r2 r3 r4 r5 r6 r7 v5 v6 r8 r9 r10 r11 v7 h1 r12 v8 v9 h2 r13 v10 v11 r14 v12 v13 r15 v14 w15 r16 v16 v17 h3 h4 r17 r18 r19 r20 v18 r21 r22 r23 v19 h2 g1 f21)) hD hS hA [0, 2] rfl
      refine va_calli (va_runV (As := [.int 3]) (rest := []) ⟨hx, hb, hml, hown, hts⟩ (k_X12_isThere l dC dI h0 h2 v0 r0 v1 v2 v3 v4 r1 r2 r3 r4 r5 r6 r7 v5 v6 r8 r9 r10 r11 v7 h1 r12 v8 v9 r13 v10 v11 r14 v12 v13 r15 v14 w15 r16 v16 v17 h3 h4 r17 r18 r19 r20 v18 r21 r22 r23 v19 g1 f21 3 ⟨i_v1a, i_v1b⟩ ⟨i_v5a, i_v5b⟩ ⟨i_v6a, i_v6b⟩ ⟨i_v7a, i_v7b⟩ ⟨i_v8a, i_v8b⟩ ⟨i_v9a, i_v9b⟩ ⟨i_v10a, i_v10b⟩ ⟨i_v14a, i_v14b⟩ ⟨i_v18a, i_v18b⟩ ⟨i_v19a, i_v19b⟩ ia_f21.1 H.size) (cwV 1 hts g_X12_tryShelf_5_0 rfl rfl rfl (by decide +kernel) ⟨Nat.le_of_ble_eq_true rfl, Nat.le_of_ble_eq_true rfl⟩) (pv_PV12 hPc hKc hDc (q0 := 0) rfl) rfl rfl hl.1 rfl (lv_room (Nat.le_of_ble_eq_true rfl)) dX12_tryShelf_36 ⟨Nat.le_of_ble_eq_true rfl, Nat.le_of_ble_eq_true rfl⟩) hS (fun q _ h => hFc q h) hFc (fun ra102 u t H1 locs ht hvm hwra102 hB hz1 hk1 hS => ?_)
      try rw [hwra102] at hB
      have hkra102_0 : ((3 : Int32)).toInt = 3 := by decide
      obtain ⟨pt0_ra102, pt1_ra102, pt2_ra102, pt3_ra102, pt4_ra102, pt5_ra102, hP1, hK1, hD1⟩ := hB
      rw [ht] at hP1
      obtain ⟨hP2, hD2⟩ := va_join (wr := (wd_20b67a68 h1 g0 f20 h3 g2 f22 h4 g3 f23)) (w1 := (wd_5013416a h0 v0 r0 v1 v2 v3 v4 r1 r2 r3 r4 r5 r6 r7 v5 v6 r8 r9 r10 r11 v7 h1 r12 v8 v9 h2 r13 v10 v11 r14 v12 v13 r15 v14 w15 r16 v16 v17 h3 h4 r17 r18 r19 r20 v18 r21 r22 r23 v19 h2 g1 f21)) hP hD [0, 2] [1, 3, 4] rfl rfl (by decide) (by decide) hk1 hFc hP1 hD1
      clear hP hD hPc hDc hKc hFc hP1 hK1 hD1 hk1 hz1
      generalize H1 = H at hP2 hS ⊢
      have hP := hP2.sub (ws' := (wd_90cd99f9 h0 v0 r0 v1 v2 v3 v4 r1 r2 r3 r4 r5 r6 r7 v5 v6 r8 r9 r10 r11 v7 h1 r12 v8 v9 h2 r13 v10 v11 r14 v12 v13 r15 v14 w15 r16 v16 v17 h3 h4 r17 r18 r19 r20 v18 r21 r22 r23 v19 h1 g0 f20 h2 g1 f21 h3 g2 f22 h4 g3 f23)) [3, 0, 4, 1, 2] rfl
      have hD := hD2.sub (ws' := (wd_90cd99f9 h0 v0 r0 v1 v2 v3 v4 r1 r2 r3 r4 r5 r6 r7 v5 v6 r8 r9 r10 r11 v7 h1 r12 v8 v9 h2 r13 v10 v11 r14 v12 v13 r15 v14 w15 r16 v16 v17 h3 h4 r17 r18 r19 r20 v18 r21 r22 r23 v19 h1 g0 f20 h2 g1 f21 h3 g2 f22 h4 g3 f23)) [3, 0, 4, 1, 2] (by decide) rfl
      clear hP2 hD2
      have wra102 : ra102.toInt = 0 → ¬ f21 (pm_I 3 7) = 1 := fun h9 => pt5_ra102 h9 (by omega) (by omega)
      refine lv_if_ne (tgt := 54) hx hb dX12_tryShelf_39 (by decide) (fun c103 => ?_) (fun c103 => ?_)
      · skip
        have fc103 : ¬ (ra102.toInt = 0) := fun h9 => c103 (Int32.toInt_inj.mp h9)
        have q1pt4_ra102 := pt4_ra102 (by omega)
        refine lv_iload hx hb dX12_tryShelf_54 (lv_at hl 4 rfl) ?_
        have hJ105 : ∀ (x104 : Int32) (H : Heap) (locs : List Loc) (ls : Array Slot), 0 ≤ x104.toInt → x104.toInt ≤ 8 → va_P (dC, dI) vwCl (wd_90cd99f9 h0 v0 r0 v1 v2 v3 v4 r1 r2 r3 r4 r5 r6 r7 v5 v6 r8 r9 r10 r11 v7 h1 r12 v8 v9 h2 r13 v10 v11 r14 v12 v13 r15 v14 w15 r16 v16 v17 h3 h4 r17 r18 r19 r20 v18 r21 r22 r23 v19 h1 g0 f20 h2 g1 f21 h3 g2 f22 h4 g3 f23) H → va_D A (wd_90cd99f9 h0 v0 r0 v1 v2 v3 v4 r1 r2 r3 r4 r5 r6 r7 v5 v6 r8 r9 r10 r11 v7 h1 r12 v8 v9 h2 r13 v10 v11 r14 v12 v13 r15 v14 w15 r16 v16 v17 h3 h4 r17 r18 r19 r20 v18 r21 r22 r23 v19 h1 g0 f20 h2 g1 f21 h3 g2 f22 h4 g3 f23) → va_S A s.heap H locs → lv_has ls 7 [(0, .ref h0), (1, .int 3), (2, .int v24), (3, .int v25), (4, .int v26)] → W p l e ({ frames := 8, cells := 0, slots := 0, locals := 192 }) s m ([.ref h0, .int 3, .int v24, .int v25, .int v26] : List Value).toArray below meth c H locs 0 0 Q (F0 m 70 ls [.int x104]) := by
          intro x104 H locs ls qa_x104 qb_x104 hP hD hS hl
          refine lv_istore (lv' := [(5, .int x104), (0, .ref h0), (1, .int 3), (2, .int v24), (3, .int v25), (4, .int v26)]) hx hb dX12_tryShelf_70 hl (by decide) rfl (fun ls hl => ?_)
          refine lv_iconst (v := 0) hx hb dX12_tryShelf_72 (by decide) ?_
          refine lv_istore (lv' := [(6, .int 0), (5, .int x104), (0, .ref h0), (1, .int 3), (2, .int v24), (3, .int v25), (4, .int v26)]) hx hb dX12_tryShelf_73 hl (by decide) rfl (fun ls hl => ?_)
          have hL131 : ∀ (n9 : Nat), ∀ (x121 : Int32) (x122 : Int32) (x123 : Int32) (fn124 : Nat → Int32) (fn125 : Nat → Int32) (H : Heap) (locs : List Loc) (ls : Array Slot), 0 ≤ x121.toInt → x121.toInt ≤ 8 → (8 - x121.toInt).toNat < n9 → va_P (dC, dI) vwCl (wd_90cd99f9 h0 v0 r0 v1 v2 v3 v4 r1 r2 r3 r4 r5 r6 r7 v5 v6 r8 r9 r10 r11 v7 h1 r12 v8 v9 h2 r13 v10 v11 r14 v12 v13 r15 v14 w15 r16 x122 x123 h3 h4 r17 r18 r19 r20 v18 r21 r22 r23 v19 h1 g0 f20 h2 g1 f21 h3 g2 fn124 h4 g3 fn125) H → va_D A (wd_90cd99f9 h0 v0 r0 v1 v2 v3 v4 r1 r2 r3 r4 r5 r6 r7 v5 v6 r8 r9 r10 r11 v7 h1 r12 v8 v9 h2 r13 v10 v11 r14 v12 v13 r15 v14 w15 r16 x122 x123 h3 h4 r17 r18 r19 r20 v18 r21 r22 r23 v19 h1 g0 f20 h2 g1 f21 h3 g2 fn124 h4 g3 fn125) → va_S A s.heap H locs → lv_has ls 7 [(6, .int x121), (5, .int x104), (0, .ref h0), (1, .int 3), (2, .int v24), (3, .int v25), (4, .int v26)] → W p l e ({ frames := 8, cells := 0, slots := 0, locals := 192 }) s m ([.ref h0, .int 3, .int v24, .int v25, .int v26] : List Value).toArray below meth c H locs 0 0 Q (F0 m 75 ls []) := by
            intro n9
            induction n9 with
            | zero => intro x121 x122 x123 fn124 fn125 H locs ls qa_x121 qb_x121 hm9 hP hD hS hl; exact absurd hm9 (Nat.not_lt_zero _)
            | succ n9 ih_hL131 =>
              intro x121 x122 x123 fn124 fn125 H locs ls qa_x121 qb_x121 hm9 hP hD hS hl
              refine lv_iload hx hb dX12_tryShelf_75 (lv_at hl 0 rfl) ?_
              refine lv_iload hx hb dX12_tryShelf_77 (lv_at hl 1 rfl) ?_
              refine lv_icmp_ge (tgt := 208) hx hb dX12_tryShelf_79 (by decide) (fun c132 => ?_) (fun c132 => ?_)
              · skip
                have fc132 : x104.toInt ≤ x121.toInt := Int32.le_iff_toInt_le.mp c132
                have r1c132 := Int32.toInt_lt x121
                have r2c132 := Int32.toInt_lt x104
                have r3c132 := Int32.le_toInt x121
                have r4c132 := Int32.le_toInt x104
                subst hQ
                have hP9 := hP.sub (ws' := (wd_90cd99f9 h0 v0 r0 v1 v2 v3 v4 r1 r2 r3 r4 r5 r6 r7 v5 v6 r8 r9 r10 r11 v7 h1 r12 v8 v9 h2 r13 v10 v11 r14 v12 v13 r15 v14 w15 r16 x122 x123 h3 h4 r17 r18 r19 r20 v18 r21 r22 r23 v19 h1 g0 f20 h2 g1 f21 h3 g2 fn124 h4 g3 fn125)) [0, 1, 2, 3, 4] rfl
                have hD9 := hD.sub (ws' := (wd_90cd99f9 h0 v0 r0 v1 v2 v3 v4 r1 r2 r3 r4 r5 r6 r7 v5 v6 r8 r9 r10 r11 v7 h1 r12 v8 v9 h2 r13 v10 v11 r14 v12 v13 r15 v14 w15 r16 x122 x123 h3 h4 r17 r18 r19 r20 v18 r21 r22 r23 v19 h1 g0 f20 h2 g1 f21 h3 g2 fn124 h4 g3 fn125)) [0, 1, 2, 3, 4] (by decide) rfl
                have hK9 := hK.sub (tys' := []) [] rfl
                exact W.vret hx hb hr (fun t ht hW => ⟨⟨(), rfl, trivial, ⟨x122, x123, fn124, fn125, by rw [ht]; exact hP9, va_K.moved hW.alike hK9, hD9⟩⟩, hS.F ht⟩) hS.2.2 dX12_tryShelf_208
              · skip
                have fc132 : ¬ (x104.toInt ≤ x121.toInt) := fun h9 => c132 (Int32.le_iff_toInt_le.mpr h9)
                have r1c132 := Int32.toInt_lt x121
                have r2c132 := Int32.toInt_lt x104
                have r3c132 := Int32.le_toInt x121
                have r4c132 := Int32.le_toInt x104
                refine lv_iload hx hb dX12_tryShelf_82 (lv_at hl 6 rfl) ?_
                have hJ137 : ∀ (x133 : Int32) (x134 : Int32) (fn135 : Nat → Int32) (fn136 : Nat → Int32) (H : Heap) (locs : List Loc) (ls : Array Slot), va_P (dC, dI) vwCl (wd_90cd99f9 h0 v0 r0 v1 v2 v3 v4 r1 r2 r3 r4 r5 r6 r7 v5 v6 r8 r9 r10 r11 v7 h1 r12 v8 v9 h2 r13 v10 v11 r14 v12 v13 r15 v14 w15 r16 x133 x134 h3 h4 r17 r18 r19 r20 v18 r21 r22 r23 v19 h1 g0 f20 h2 g1 f21 h3 g2 fn135 h4 g3 fn136) H → va_D A (wd_90cd99f9 h0 v0 r0 v1 v2 v3 v4 r1 r2 r3 r4 r5 r6 r7 v5 v6 r8 r9 r10 r11 v7 h1 r12 v8 v9 h2 r13 v10 v11 r14 v12 v13 r15 v14 w15 r16 x133 x134 h3 h4 r17 r18 r19 r20 v18 r21 r22 r23 v19 h1 g0 f20 h2 g1 f21 h3 g2 fn135 h4 g3 fn136) → va_S A s.heap H locs → lv_has ls 7 [(6, .int x121), (5, .int x104), (0, .ref h0), (1, .int 3), (2, .int v24), (3, .int v25), (4, .int v26)] → W p l e ({ frames := 8, cells := 0, slots := 0, locals := 192 }) s m ([.ref h0, .int 3, .int v24, .int v25, .int v26] : List Value).toArray below meth c H locs 0 0 Q (F0 m 202 ls []) := by
                  intro x133 x134 fn135 fn136 H locs ls hP hD hS hl
                  obtain ⟨t138, et138⟩ : ∃ y : Int32, y = x121 + 1 := ⟨_, rfl⟩
                  have gt138 : t138.toInt = x121.toInt + (1) := pv_add (a := x121.toInt) (b := (1)) et138 rfl (by decide) (by omega) (by omega)
                  refine lv_iinc (v := t138) (lv' := [(6, .int t138), (5, .int x104), (0, .ref h0), (1, .int 3), (2, .int v24), (3, .int v25), (4, .int v26)]) hx hb dX12_tryShelf_202 hl (k := 0) rfl (by rw [et138]; rfl) (by decide) rfl (fun ls hl => ?_)
                  refine lv_goto (tgt := 75) hx hb dX12_tryShelf_205 (by decide) ?_
                  exact ih_hL131 t138 x133 x134 fn135 fn136 H locs ls (by first | omega | decide) (by first | omega | decide) (by first | omega | (simp only [Int.toNat] at *; omega)) hP hD hS (lv_sub hl [0, 1, 2, 3, 4, 5, 6] rfl)
                refine lv_if_eq (tgt := 113) hx hb dX12_tryShelf_84 (by decide) (fun c139 => ?_) (fun c139 => ?_)
                · skip
                  have fc139 : v26.toInt = 0 := congrArg Int32.toInt c139
                  refine lv_aload_n hx hb dX12_tryShelf_113 rfl (lv_at hl 2 rfl) ?_
                  refine lv_iload_n hx hb dX12_tryShelf_114 rfl (lv_at hl 3 rfl) ?_
                  refine lv_iload hx hb dX12_tryShelf_115 (lv_at hl 0 rfl) ?_
                  have hPc := hP.sub (ws' := (wd_f4deda84 h0 v0 r0 v1 v2 v3 v4 r1 r2 r3 r4 r5 r6 r7 v5 v6 r8 r9 r10 r11 v7 h1 r12 v8 v9 h2 r13 v10 v11 r14 v12 v13 r15 v14 w15 r16 x122 x123 h3 h4 r17 r18 r19 r20 v18 r21 r22 r23 v19 h2 g1 f21 h3 g2 fn124)) [0, 2, 3] rfl
                  have hDc := hD.sub (ws' := (wd_f4deda84 h0 v0 r0 v1 v2 v3 v4 r1 r2 r3 r4 r5 r6 r7 v5 v6 r8 r9 r10 r11 v7 h1 r12 v8 v9 h2 r13 v10 v11 r14 v12 v13 r15 v14 w15 r16 x122 x123 h3 h4 r17 r18 r19 r20 v18 r21 r22 r23 v19 h2 g1 f21 h3 g2 fn124)) [0, 2, 3] (by decide) rfl
                  have hKc := hK.sub (tys' := [(g1, .int), (g2, .int)]) [1, 2] rfl
                  have hFc := va_free (wc := (wd_f4deda84 h0 v0 r0 v1 v2 v3 v4 r1 r2 r3 r4 r5 r6 r7 v5 v6 r8 r9 r10 r11 v7 h1 r12 v8 v9 h2 r13 v10 v11 r14 v12 v13 r15 v14 w15 r16 x122 x123 h3 h4 r17 r18 r19 r20 v18 r21 r22 r23 v19 h2 g1 f21 h3 g2 fn124)) hD hS hA [0, 2, 3] rfl
                  refine va_calli (va_runV (As := [.int 3, .int x121]) (rest := []) ⟨hx, hb, hml, hown, hts⟩ (k_X12_isCalm l dC dI h0 h2 h3 v0 r0 v1 v2 v3 v4 r1 r2 r3 r4 r5 r6 r7 v5 v6 r8 r9 r10 r11 v7 h1 r12 v8 v9 r13 v10 v11 r14 v12 v13 r15 v14 w15 r16 x122 x123 h4 r17 r18 r19 r20 v18 r21 r22 r23 v19 g1 f21 g2 fn124 3 x121 ⟨i_v1a, i_v1b⟩ ⟨i_v5a, i_v5b⟩ ⟨i_v6a, i_v6b⟩ ⟨i_v7a, i_v7b⟩ ⟨i_v8a, i_v8b⟩ ⟨i_v9a, i_v9b⟩ ⟨i_v10a, i_v10b⟩ ⟨i_v14a, i_v14b⟩ ⟨i_v18a, i_v18b⟩ ⟨i_v19a, i_v19b⟩ ⟨by decide, by decide⟩ ia_f21 H.size) (cwV 2 hts g_X12_tryShelf_5_1 rfl rfl rfl (by decide +kernel) ⟨Nat.le_of_ble_eq_true rfl, Nat.le_of_ble_eq_true rfl⟩) (pv_PV12 hPc hKc hDc (q0 := 0) rfl) rfl rfl hl.1 rfl (lv_room (Nat.le_of_ble_eq_true rfl)) dX12_tryShelf_117 ⟨Nat.le_of_ble_eq_true rfl, Nat.le_of_ble_eq_true rfl⟩) hS (fun q _ h => hFc q h) hFc (fun ra140 u t H1 locs ht hvm hwra140 hB hz1 hk1 hS => ?_)
                  try rw [hwra140] at hB
                  have hkra140_0 : ((3 : Int32)).toInt = 3 := by decide
                  obtain ⟨pt0_ra140, pt1_ra140, hP1, hK1, hD1⟩ := hB
                  rw [ht] at hP1
                  obtain ⟨hP2, hD2⟩ := va_join (wr := (wd_5481fbec h1 g0 f20 h4 g3 fn125)) (w1 := (wd_f4deda84 h0 v0 r0 v1 v2 v3 v4 r1 r2 r3 r4 r5 r6 r7 v5 v6 r8 r9 r10 r11 v7 h1 r12 v8 v9 h2 r13 v10 v11 r14 v12 v13 r15 v14 w15 r16 x122 x123 h3 h4 r17 r18 r19 r20 v18 r21 r22 r23 v19 h2 g1 f21 h3 g2 fn124)) hP hD [0, 2, 3] [1, 4] rfl rfl (by decide) (by decide) hk1 hFc hP1 hD1
                  clear hP hD hPc hDc hKc hFc hP1 hK1 hD1 hk1 hz1
                  generalize H1 = H at hP2 hS ⊢
                  have hP := hP2.sub (ws' := (wd_90cd99f9 h0 v0 r0 v1 v2 v3 v4 r1 r2 r3 r4 r5 r6 r7 v5 v6 r8 r9 r10 r11 v7 h1 r12 v8 v9 h2 r13 v10 v11 r14 v12 v13 r15 v14 w15 r16 x122 x123 h3 h4 r17 r18 r19 r20 v18 r21 r22 r23 v19 h1 g0 f20 h2 g1 f21 h3 g2 fn124 h4 g3 fn125)) [2, 0, 3, 4, 1] rfl
                  have hD := hD2.sub (ws' := (wd_90cd99f9 h0 v0 r0 v1 v2 v3 v4 r1 r2 r3 r4 r5 r6 r7 v5 v6 r8 r9 r10 r11 v7 h1 r12 v8 v9 h2 r13 v10 v11 r14 v12 v13 r15 v14 w15 r16 x122 x123 h3 h4 r17 r18 r19 r20 v18 r21 r22 r23 v19 h1 g0 f20 h2 g1 f21 h3 g2 fn124 h4 g3 fn125)) [2, 0, 3, 4, 1] (by decide) rfl
                  clear hP2 hD2
                  refine lv_if_eq (tgt := 202) hx hb dX12_tryShelf_120 (by decide) (fun c141 => ?_) (fun c141 => ?_)
                  · skip
                    have fc141 : ra140.toInt = 0 := congrArg Int32.toInt c141
                    exact hJ137 x122 x123 fn124 fn125 H locs ls hP hD hS (lv_sub hl [0, 1, 2, 3, 4, 5, 6] rfl)
                  · skip
                    have fc141 : ¬ (ra140.toInt = 0) := fun h9 => c141 (Int32.toInt_inj.mp h9)
                    refine lv_aload_n hx hb dX12_tryShelf_123 rfl (lv_at hl 2 rfl) ?_
                    refine va_get (D := (dC, dI)) (ci := 12) (v := .ref h4) (C := RX12) (T := TX12) (N := 48) hx hb hts (fun _ h => List.mem_cons_of_mem _ (List.mem_append_right _ h)) hown hK hP 0 rfl rfl 38 (by decide) (hts (.fieldLink RX12 77 "LeftArgumentsModel" "room" "[I") (List.mem_cons_of_mem _ (List.mem_append_left _ (List.mem_of_getElem? (i := 31) rfl)))) (fun _ h9 => h9) rfl dX12_tryShelf_124 ?_
                    refine lv_iload hx hb dX12_tryShelf_127 (lv_at hl 0 rfl) ?_
                    refine lv_dup2_11 hx hb dX12_tryShelf_129 rfl rfl ?_
                    refine va_iald hx hb hK hP 4 3 rfl rfl (vp_in_iff.mpr ⟨by omega, by omega⟩) dX12_tryShelf_130 ?_
                    refine lv_topi (fun t142 et142 => ?_)
                    refine lv_aload_n hx hb dX12_tryShelf_131 rfl (lv_at hl 2 rfl) ?_
                    refine lv_iload_n hx hb dX12_tryShelf_132 rfl (lv_at hl 3 rfl) ?_
                    refine lv_iconst (v := 0) hx hb dX12_tryShelf_133 (by decide) ?_
                    have hPc := hP.sub (ws' := (wd_5013416a h0 v0 r0 v1 v2 v3 v4 r1 r2 r3 r4 r5 r6 r7 v5 v6 r8 r9 r10 r11 v7 h1 r12 v8 v9 h2 r13 v10 v11 r14 v12 v13 r15 v14 w15 r16 x122 x123 h3 h4 r17 r18 r19 r20 v18 r21 r22 r23 v19 h2 g1 f21)) [0, 2] rfl
                    have hDc := hD.sub (ws' := (wd_5013416a h0 v0 r0 v1 v2 v3 v4 r1 r2 r3 r4 r5 r6 r7 v5 v6 r8 r9 r10 r11 v7 h1 r12 v8 v9 h2 r13 v10 v11 r14 v12 v13 r15 v14 w15 r16 x122 x123 h3 h4 r17 r18 r19 r20 v18 r21 r22 r23 v19 h2 g1 f21)) [0, 2] (by decide) rfl
                    have hKc := hK.sub (tys' := [(g1, .int)]) [1] rfl
                    have hFc := va_free (wc := (wd_5013416a h0 v0 r0 v1 v2 v3 v4 r1 r2 r3 r4 r5 r6 r7 v5 v6 r8 r9 r10 r11 v7 h1 r12 v8 v9 h2 r13 v10 v11 r14 v12 v13 r15 v14 w15 r16 x122 x123 h3 h4 r17 r18 r19 r20 v18 r21 r22 r23 v19 h2 g1 f21)) hD hS hA [0, 2] rfl
                    refine va_calli (va_runV (As := [.int 3, .int 0]) (rest := [.int t142, .int x121, .ref h4]) ⟨hx, hb, hml, hown, hts⟩ (k_X12_of_3 l dC dI h0 h2 v0 r0 v1 v2 v3 v4 r1 r2 r3 r4 r5 r6 r7 v5 v6 r8 r9 r10 r11 v7 h1 r12 v8 v9 r13 v10 v11 r14 v12 v13 r15 v14 w15 r16 x122 x123 h3 h4 r17 r18 r19 r20 v18 r21 r22 r23 v19 g1 f21 3 ⟨i_v1a, i_v1b⟩ ⟨i_v5a, i_v5b⟩ ⟨i_v6a, i_v6b⟩ ⟨i_v7a, i_v7b⟩ ⟨i_v8a, i_v8b⟩ ⟨i_v9a, i_v9b⟩ ⟨i_v10a, i_v10b⟩ ⟨i_v14a, i_v14b⟩ ⟨i_v18a, i_v18b⟩ ⟨i_v19a, i_v19b⟩ ⟨by decide, by decide⟩ ia_f21.1 H.size) (cwV 2 hts g_X12_tryShelf_5_2 rfl rfl rfl (by decide +kernel) ⟨Nat.le_of_ble_eq_true rfl, Nat.le_of_ble_eq_true rfl⟩) (pv_PV12 hPc hKc hDc (q0 := 0) rfl) rfl rfl hl.1 rfl (lv_room (Nat.le_of_ble_eq_true rfl)) dX12_tryShelf_134 ⟨Nat.le_of_ble_eq_true rfl, Nat.le_of_ble_eq_true rfl⟩) hS (fun q _ h => hFc q h) hFc (fun ra143 u t H1 locs ht hvm hwra143 hB hz1 hk1 hS => ?_)
                    try rw [hwra143] at hB
                    have hkra143_0 : ((3 : Int32)).toInt = 3 := by decide
                    obtain ⟨pt0_ra143, pt1_ra143, pt2_ra143, hP1, hK1, hD1⟩ := hB
                    rw [ht] at hP1
                    obtain ⟨hP2, hD2⟩ := va_join (wr := (wd_20b67a68 h1 g0 f20 h3 g2 fn124 h4 g3 fn125)) (w1 := (wd_5013416a h0 v0 r0 v1 v2 v3 v4 r1 r2 r3 r4 r5 r6 r7 v5 v6 r8 r9 r10 r11 v7 h1 r12 v8 v9 h2 r13 v10 v11 r14 v12 v13 r15 v14 w15 r16 x122 x123 h3 h4 r17 r18 r19 r20 v18 r21 r22 r23 v19 h2 g1 f21)) hP hD [0, 2] [1, 3, 4] rfl rfl (by decide) (by decide) hk1 hFc hP1 hD1
                    clear hP hD hPc hDc hKc hFc hP1 hK1 hD1 hk1 hz1
                    generalize H1 = H at hP2 hS ⊢
                    have hP := hP2.sub (ws' := (wd_90cd99f9 h0 v0 r0 v1 v2 v3 v4 r1 r2 r3 r4 r5 r6 r7 v5 v6 r8 r9 r10 r11 v7 h1 r12 v8 v9 h2 r13 v10 v11 r14 v12 v13 r15 v14 w15 r16 x122 x123 h3 h4 r17 r18 r19 r20 v18 r21 r22 r23 v19 h1 g0 f20 h2 g1 f21 h3 g2 fn124 h4 g3 fn125)) [3, 0, 4, 1, 2] rfl
                    have hD := hD2.sub (ws' := (wd_90cd99f9 h0 v0 r0 v1 v2 v3 v4 r1 r2 r3 r4 r5 r6 r7 v5 v6 r8 r9 r10 r11 v7 h1 r12 v8 v9 h2 r13 v10 v11 r14 v12 v13 r15 v14 w15 r16 x122 x123 h3 h4 r17 r18 r19 r20 v18 r21 r22 r23 v19 h1 g0 f20 h2 g1 f21 h3 g2 fn124 h4 g3 fn125)) [3, 0, 4, 1, 2] (by decide) rfl
                    clear hP2 hD2
                    refine lv_iadd hx hb dX12_tryShelf_137 ?_
                    refine lv_topi (fun t144 et144 => ?_)
                    refine va_iast hx hb hK hP hD hS 4 3 rfl rfl (vp_in_iff.mpr ⟨by omega, by omega⟩) dX12_tryShelf_138 (fun H locs hP hD hS => ?_)
                    obtain ⟨fn145, efn145⟩ : ∃ g : Nat → Int32, g = upd fn125 (Int32.toNatClampNeg x121) t144 := ⟨_, rfl⟩
                    rw [← efn145] at hP hD
                    have hP : va_P (dC, dI) vwCl (wd_90cd99f9 h0 v0 r0 v1 v2 v3 v4 r1 r2 r3 r4 r5 r6 r7 v5 v6 r8 r9 r10 r11 v7 h1 r12 v8 v9 h2 r13 v10 v11 r14 v12 v13 r15 v14 w15 r16 x122 x123 h3 h4 r17 r18 r19 r20 v18 r21 r22 r23 v19 h1 g0 f20 h2 g1 f21 h3 g2 fn124 h4 g3 fn145) H := hP
                    have hD : va_D A (wd_90cd99f9 h0 v0 r0 v1 v2 v3 v4 r1 r2 r3 r4 r5 r6 r7 v5 v6 r8 r9 r10 r11 v7 h1 r12 v8 v9 h2 r13 v10 v11 r14 v12 v13 r15 v14 w15 r16 x122 x123 h3 h4 r17 r18 r19 r20 v18 r21 r22 r23 v19 h1 g0 f20 h2 g1 f21 h3 g2 fn124 h4 g3 fn145) := hD
                    refine lv_aload_n hx hb dX12_tryShelf_139 rfl (lv_at hl 2 rfl) ?_
                    refine va_get (D := (dC, dI)) (ci := 12) (v := .ref h3) (C := RX12) (T := TX12) (N := 48) hx hb hts (fun _ h => List.mem_cons_of_mem _ (List.mem_append_right _ h)) hown hK hP 0 rfl rfl 37 (by decide) (hts (.fieldLink RX12 74 "LeftArgumentsModel" "onShelf" "[I") (List.mem_cons_of_mem _ (List.mem_append_left _ (List.mem_of_getElem? (i := 15) rfl)))) (fun _ h9 => h9) rfl dX12_tryShelf_140 ?_
                    refine lv_iload_n hx hb dX12_tryShelf_143 rfl (lv_at hl 3 rfl) ?_
                    refine lv_iload hx hb dX12_tryShelf_144 (lv_at hl 0 rfl) ?_
                    refine va_iast hx hb hK hP hD hS 3 2 rfl rfl (pv_c (x := 3) (n := 8) (by decide)) dX12_tryShelf_146 (fun H locs hP hD hS => ?_)
                    obtain ⟨fn146, efn146⟩ : ∃ g : Nat → Int32, g = upd fn124 (Int32.toNatClampNeg 3) x121 := ⟨_, rfl⟩
                    rw [← efn146] at hP hD
                    have hP : va_P (dC, dI) vwCl (wd_90cd99f9 h0 v0 r0 v1 v2 v3 v4 r1 r2 r3 r4 r5 r6 r7 v5 v6 r8 r9 r10 r11 v7 h1 r12 v8 v9 h2 r13 v10 v11 r14 v12 v13 r15 v14 w15 r16 x122 x123 h3 h4 r17 r18 r19 r20 v18 r21 r22 r23 v19 h1 g0 f20 h2 g1 f21 h3 g2 fn146 h4 g3 fn145) H := hP
                    have hD : va_D A (wd_90cd99f9 h0 v0 r0 v1 v2 v3 v4 r1 r2 r3 r4 r5 r6 r7 v5 v6 r8 r9 r10 r11 v7 h1 r12 v8 v9 h2 r13 v10 v11 r14 v12 v13 r15 v14 w15 r16 x122 x123 h3 h4 r17 r18 r19 r20 v18 r21 r22 r23 v19 h1 g0 f20 h2 g1 f21 h3 g2 fn146 h4 g3 fn145) := hD
                    refine lv_aload_n hx hb dX12_tryShelf_147 rfl (lv_at hl 2 rfl) ?_
                    refine lv_iload_n hx hb dX12_tryShelf_148 rfl (lv_at hl 3 rfl) ?_
                    refine lv_iconst (v := 1) hx hb dX12_tryShelf_149 (by decide) ?_
                    refine lv_iadd hx hb dX12_tryShelf_150 ?_
                    refine lv_topi (fun tv147 etv147 => ?_)
                    obtain rfl : tv147 = (4 : Int32) := etv147.trans (by first | rfl | decide)
                    refine lv_bipush (v := 10) hx hb dX12_tryShelf_151 (by decide) ?_
                    refine lv_iload_n hx hb dX12_tryShelf_153 rfl (lv_at hl 4 rfl) ?_
                    refine lv_imul hx hb dX12_tryShelf_154 ?_
                    refine lv_topi (fun t148 et148 => ?_)
                    refine lv_iload hx hb dX12_tryShelf_155 (lv_at hl 0 rfl) ?_
                    refine lv_iadd hx hb dX12_tryShelf_157 ?_
                    refine lv_topi (fun t149 et149 => ?_)
                    refine lv_iload_n hx hb dX12_tryShelf_158 rfl (lv_at hl 5 rfl) ?_
                    refine lv_aload_n hx hb dX12_tryShelf_159 rfl (lv_at hl 2 rfl) ?_
                    refine va_get (D := (dC, dI)) (ci := 12) (v := .ref h4) (C := RX12) (T := TX12) (N := 48) hx hb hts (fun _ h => List.mem_cons_of_mem _ (List.mem_append_right _ h)) hown hK hP 0 rfl rfl 38 (by decide) (hts (.fieldLink RX12 77 "LeftArgumentsModel" "room" "[I") (List.mem_cons_of_mem _ (List.mem_append_left _ (List.mem_of_getElem? (i := 31) rfl)))) (fun _ h9 => h9) rfl dX12_tryShelf_160 ?_
                    refine lv_iload hx hb dX12_tryShelf_163 (lv_at hl 0 rfl) ?_
                    refine va_iald hx hb hK hP 4 3 rfl rfl (vp_in_iff.mpr ⟨by omega, by omega⟩) dX12_tryShelf_165 ?_
                    refine lv_topi (fun t150 et150 => ?_)
                    refine lv_aload_n hx hb dX12_tryShelf_166 rfl (lv_at hl 2 rfl) ?_
                    refine lv_iload_n hx hb dX12_tryShelf_167 rfl (lv_at hl 3 rfl) ?_
                    refine lv_iconst (v := 0) hx hb dX12_tryShelf_168 (by decide) ?_
                    have hPc := hP.sub (ws' := (wd_5013416a h0 v0 r0 v1 v2 v3 v4 r1 r2 r3 r4 r5 r6 r7 v5 v6 r8 r9 r10 r11 v7 h1 r12 v8 v9 h2 r13 v10 v11 r14 v12 v13 r15 v14 w15 r16 x122 x123 h3 h4 r17 r18 r19 r20 v18 r21 r22 r23 v19 h2 g1 f21)) [0, 2] rfl
                    have hDc := hD.sub (ws' := (wd_5013416a h0 v0 r0 v1 v2 v3 v4 r1 r2 r3 r4 r5 r6 r7 v5 v6 r8 r9 r10 r11 v7 h1 r12 v8 v9 h2 r13 v10 v11 r14 v12 v13 r15 v14 w15 r16 x122 x123 h3 h4 r17 r18 r19 r20 v18 r21 r22 r23 v19 h2 g1 f21)) [0, 2] (by decide) rfl
                    have hKc := hK.sub (tys' := [(g1, .int)]) [1] rfl
                    have hFc := va_free (wc := (wd_5013416a h0 v0 r0 v1 v2 v3 v4 r1 r2 r3 r4 r5 r6 r7 v5 v6 r8 r9 r10 r11 v7 h1 r12 v8 v9 h2 r13 v10 v11 r14 v12 v13 r15 v14 w15 r16 x122 x123 h3 h4 r17 r18 r19 r20 v18 r21 r22 r23 v19 h2 g1 f21)) hD hS hA [0, 2] rfl
                    refine va_calli (va_runV (As := [.int 3, .int 0]) (rest := [.int t150, .int v25, .int t149, .int 4, .ref h0]) ⟨hx, hb, hml, hown, hts⟩ (k_X12_of_3 l dC dI h0 h2 v0 r0 v1 v2 v3 v4 r1 r2 r3 r4 r5 r6 r7 v5 v6 r8 r9 r10 r11 v7 h1 r12 v8 v9 r13 v10 v11 r14 v12 v13 r15 v14 w15 r16 x122 x123 h3 h4 r17 r18 r19 r20 v18 r21 r22 r23 v19 g1 f21 3 ⟨i_v1a, i_v1b⟩ ⟨i_v5a, i_v5b⟩ ⟨i_v6a, i_v6b⟩ ⟨i_v7a, i_v7b⟩ ⟨i_v8a, i_v8b⟩ ⟨i_v9a, i_v9b⟩ ⟨i_v10a, i_v10b⟩ ⟨i_v14a, i_v14b⟩ ⟨i_v18a, i_v18b⟩ ⟨i_v19a, i_v19b⟩ ⟨by decide, by decide⟩ ia_f21.1 H.size) (cwV 2 hts g_X12_tryShelf_5_2 rfl rfl rfl (by decide +kernel) ⟨Nat.le_of_ble_eq_true rfl, Nat.le_of_ble_eq_true rfl⟩) (pv_PV12 hPc hKc hDc (q0 := 0) rfl) rfl rfl hl.1 rfl (lv_room (Nat.le_of_ble_eq_true rfl)) dX12_tryShelf_169 ⟨Nat.le_of_ble_eq_true rfl, Nat.le_of_ble_eq_true rfl⟩) hS (fun q _ h => hFc q h) hFc (fun ra151 u t H1 locs ht hvm hwra151 hB hz1 hk1 hS => ?_)
                    try rw [hwra151] at hB
                    have hkra151_0 : ((3 : Int32)).toInt = 3 := by decide
                    obtain ⟨pt0_ra151, pt1_ra151, pt2_ra151, hP1, hK1, hD1⟩ := hB
                    rw [ht] at hP1
                    obtain ⟨hP2, hD2⟩ := va_join (wr := (wd_20b67a68 h1 g0 f20 h3 g2 fn146 h4 g3 fn145)) (w1 := (wd_5013416a h0 v0 r0 v1 v2 v3 v4 r1 r2 r3 r4 r5 r6 r7 v5 v6 r8 r9 r10 r11 v7 h1 r12 v8 v9 h2 r13 v10 v11 r14 v12 v13 r15 v14 w15 r16 x122 x123 h3 h4 r17 r18 r19 r20 v18 r21 r22 r23 v19 h2 g1 f21)) hP hD [0, 2] [1, 3, 4] rfl rfl (by decide) (by decide) hk1 hFc hP1 hD1
                    clear hP hD hPc hDc hKc hFc hP1 hK1 hD1 hk1 hz1
                    generalize H1 = H at hP2 hS ⊢
                    have hP := hP2.sub (ws' := (wd_90cd99f9 h0 v0 r0 v1 v2 v3 v4 r1 r2 r3 r4 r5 r6 r7 v5 v6 r8 r9 r10 r11 v7 h1 r12 v8 v9 h2 r13 v10 v11 r14 v12 v13 r15 v14 w15 r16 x122 x123 h3 h4 r17 r18 r19 r20 v18 r21 r22 r23 v19 h1 g0 f20 h2 g1 f21 h3 g2 fn146 h4 g3 fn145)) [3, 0, 4, 1, 2] rfl
                    have hD := hD2.sub (ws' := (wd_90cd99f9 h0 v0 r0 v1 v2 v3 v4 r1 r2 r3 r4 r5 r6 r7 v5 v6 r8 r9 r10 r11 v7 h1 r12 v8 v9 h2 r13 v10 v11 r14 v12 v13 r15 v14 w15 r16 x122 x123 h3 h4 r17 r18 r19 r20 v18 r21 r22 r23 v19 h1 g0 f20 h2 g1 f21 h3 g2 fn146 h4 g3 fn145)) [3, 0, 4, 1, 2] (by decide) rfl
                    clear hP2 hD2
                    have hJ153 : ∀ (x152 : Int32) (H : Heap) (locs : List Loc) (ls : Array Slot), 0 ≤ x152.toInt → x152.toInt ≤ 1 → va_P (dC, dI) vwCl (wd_90cd99f9 h0 v0 r0 v1 v2 v3 v4 r1 r2 r3 r4 r5 r6 r7 v5 v6 r8 r9 r10 r11 v7 h1 r12 v8 v9 h2 r13 v10 v11 r14 v12 v13 r15 v14 w15 r16 x122 x123 h3 h4 r17 r18 r19 r20 v18 r21 r22 r23 v19 h1 g0 f20 h2 g1 f21 h3 g2 fn146 h4 g3 fn145) H → va_D A (wd_90cd99f9 h0 v0 r0 v1 v2 v3 v4 r1 r2 r3 r4 r5 r6 r7 v5 v6 r8 r9 r10 r11 v7 h1 r12 v8 v9 h2 r13 v10 v11 r14 v12 v13 r15 v14 w15 r16 x122 x123 h3 h4 r17 r18 r19 r20 v18 r21 r22 r23 v19 h1 g0 f20 h2 g1 f21 h3 g2 fn146 h4 g3 fn145) → va_S A s.heap H locs → lv_has ls 7 [(6, .int x121), (5, .int x104), (0, .ref h0), (1, .int 3), (2, .int v24), (3, .int v25), (4, .int v26)] → W p l e ({ frames := 8, cells := 0, slots := 0, locals := 192 }) s m ([.ref h0, .int 3, .int v24, .int v25, .int v26] : List Value).toArray below meth c H locs 0 0 Q (F0 m 180 ls [.int x152, .int v25, .int t149, .int 4, .ref h0]) := by
                      intro x152 H locs ls qa_x152 qb_x152 hP hD hS hl
                      refine lv_iadd hx hb dX12_tryShelf_180 ?_
                      refine lv_topi (fun t154 et154 => ?_)
                      have r5t154v25 := Int32.le_toInt v25; have r6t154v25 := Int32.toInt_lt v25
                      have gt154 : t154.toInt = v25.toInt + x152.toInt := pv_add (a := v25.toInt) (b := x152.toInt) et154 rfl rfl (by omega) (by omega)
                      refine lv_iload hx hb dX12_tryShelf_181 (lv_at hl 6 rfl) ?_
                      have hPc := hP.sub (ws' := (wd_90cd99f9 h0 v0 r0 v1 v2 v3 v4 r1 r2 r3 r4 r5 r6 r7 v5 v6 r8 r9 r10 r11 v7 h1 r12 v8 v9 h2 r13 v10 v11 r14 v12 v13 r15 v14 w15 r16 x122 x123 h3 h4 r17 r18 r19 r20 v18 r21 r22 r23 v19 h1 g0 f20 h2 g1 f21 h3 g2 fn146 h4 g3 fn145)) [0, 1, 2, 3, 4] rfl
                      have hDc := hD.sub (ws' := (wd_90cd99f9 h0 v0 r0 v1 v2 v3 v4 r1 r2 r3 r4 r5 r6 r7 v5 v6 r8 r9 r10 r11 v7 h1 r12 v8 v9 h2 r13 v10 v11 r14 v12 v13 r15 v14 w15 r16 x122 x123 h3 h4 r17 r18 r19 r20 v18 r21 r22 r23 v19 h1 g0 f20 h2 g1 f21 h3 g2 fn146 h4 g3 fn145)) [0, 1, 2, 3, 4] (by decide) rfl
                      have hKc := hK.sub (tys' := [(g0, .int), (g1, .int), (g2, .int), (g3, .int)]) [0, 1, 2, 3] rfl
                      have hFc := va_free (wc := (wd_90cd99f9 h0 v0 r0 v1 v2 v3 v4 r1 r2 r3 r4 r5 r6 r7 v5 v6 r8 r9 r10 r11 v7 h1 r12 v8 v9 h2 r13 v10 v11 r14 v12 v13 r15 v14 w15 r16 x122 x123 h3 h4 r17 r18 r19 r20 v18 r21 r22 r23 v19 h1 g0 f20 h2 g1 f21 h3 g2 fn146 h4 g3 fn145)) hD hS hA [0, 1, 2, 3, 4] rfl
                      refine va_callv (va_runV (As := [.int 4, .int t149, .int t154, .int v26]) (rest := []) ⟨hx, hb, hml, hown, hts⟩ (k_X12_tryShelf_4 l dC dI h0 h1 h2 h3 h4 v0 r0 v1 v2 v3 v4 r1 r2 r3 r4 r5 r6 r7 v5 v6 r8 r9 r10 r11 v7 r12 v8 v9 r13 v10 v11 r14 v12 v13 r15 v14 w15 r16 x122 x123 r17 r18 r19 r20 v18 r21 r22 r23 v19 g0 f20 g1 f21 g2 fn146 g3 fn145 t149 t154 v26 ⟨i_v1a, i_v1b⟩ ⟨i_v5a, i_v5b⟩ ⟨i_v6a, i_v6b⟩ ⟨i_v7a, i_v7b⟩ ⟨i_v8a, i_v8b⟩ ⟨i_v9a, i_v9b⟩ ⟨i_v10a, i_v10b⟩ ⟨i_v14a, i_v14b⟩ ⟨i_v18a, i_v18b⟩ ⟨i_v19a, i_v19b⟩ ⟨i_v26a, i_v26b⟩ ia_f20 ia_f21 H.size) (cwV 4 hts g_X12_tryShelf_5_4 rfl rfl rfl (by decide +kernel) ⟨Nat.le_of_ble_eq_true rfl, Nat.le_of_ble_eq_true rfl⟩) (pv_PV12 hPc hKc hDc (q0 := 0) rfl) rfl rfl hl.1 rfl (lv_room (Nat.le_of_ble_eq_true rfl)) dX12_tryShelf_183 ⟨Nat.le_of_ble_eq_true rfl, Nat.le_of_ble_eq_true rfl⟩) hS (fun q _ h => hFc q h) hFc (fun u t H1 locs ht hvm hwra155 hB hz1 hk1 hS => ?_)
                      obtain ⟨x156, x157, fn158, fn159, hP1, hK1, hD1⟩ := hB
                      rw [ht] at hP1
                      obtain ⟨hP2, hD2⟩ := va_join (wr := []) (w1 := (wd_90cd99f9 h0 v0 r0 v1 v2 v3 v4 r1 r2 r3 r4 r5 r6 r7 v5 v6 r8 r9 r10 r11 v7 h1 r12 v8 v9 h2 r13 v10 v11 r14 v12 v13 r15 v14 w15 r16 x156 x157 h3 h4 r17 r18 r19 r20 v18 r21 r22 r23 v19 h1 g0 f20 h2 g1 f21 h3 g2 fn158 h4 g3 fn159)) hP hD [0, 1, 2, 3, 4] [] rfl rfl (by decide) (by decide) hk1 hFc hP1 hD1
                      clear hP hD hPc hDc hKc hFc hP1 hK1 hD1 hk1 hz1
                      generalize H1 = H at hP2 hS ⊢
                      have hP : va_P (dC, dI) vwCl (wd_90cd99f9 h0 v0 r0 v1 v2 v3 v4 r1 r2 r3 r4 r5 r6 r7 v5 v6 r8 r9 r10 r11 v7 h1 r12 v8 v9 h2 r13 v10 v11 r14 v12 v13 r15 v14 w15 r16 x156 x157 h3 h4 r17 r18 r19 r20 v18 r21 r22 r23 v19 h1 g0 f20 h2 g1 f21 h3 g2 fn158 h4 g3 fn159) H := hP2
                      have hD : va_D A (wd_90cd99f9 h0 v0 r0 v1 v2 v3 v4 r1 r2 r3 r4 r5 r6 r7 v5 v6 r8 r9 r10 r11 v7 h1 r12 v8 v9 h2 r13 v10 v11 r14 v12 v13 r15 v14 w15 r16 x156 x157 h3 h4 r17 r18 r19 r20 v18 r21 r22 r23 v19 h1 g0 f20 h2 g1 f21 h3 g2 fn158 h4 g3 fn159) := hD2
                      clear hP2 hD2
                      refine lv_aload_n hx hb dX12_tryShelf_186 rfl (lv_at hl 2 rfl) ?_
                      refine va_get (D := (dC, dI)) (ci := 12) (v := .ref h4) (C := RX12) (T := TX12) (N := 48) hx hb hts (fun _ h => List.mem_cons_of_mem _ (List.mem_append_right _ h)) hown hK hP 0 rfl rfl 38 (by decide) (hts (.fieldLink RX12 77 "LeftArgumentsModel" "room" "[I") (List.mem_cons_of_mem _ (List.mem_append_left _ (List.mem_of_getElem? (i := 31) rfl)))) (fun _ h9 => h9) rfl dX12_tryShelf_187 ?_
                      refine lv_iload hx hb dX12_tryShelf_190 (lv_at hl 0 rfl) ?_
                      refine lv_dup2_11 hx hb dX12_tryShelf_192 rfl rfl ?_
                      refine va_iald hx hb hK hP 4 3 rfl rfl (vp_in_iff.mpr ⟨by omega, by omega⟩) dX12_tryShelf_193 ?_
                      refine lv_topi (fun t160 et160 => ?_)
                      refine lv_aload_n hx hb dX12_tryShelf_194 rfl (lv_at hl 2 rfl) ?_
                      refine lv_iload_n hx hb dX12_tryShelf_195 rfl (lv_at hl 3 rfl) ?_
                      refine lv_iconst (v := 0) hx hb dX12_tryShelf_196 (by decide) ?_
                      have hPc := hP.sub (ws' := (wd_5013416a h0 v0 r0 v1 v2 v3 v4 r1 r2 r3 r4 r5 r6 r7 v5 v6 r8 r9 r10 r11 v7 h1 r12 v8 v9 h2 r13 v10 v11 r14 v12 v13 r15 v14 w15 r16 x156 x157 h3 h4 r17 r18 r19 r20 v18 r21 r22 r23 v19 h2 g1 f21)) [0, 2] rfl
                      have hDc := hD.sub (ws' := (wd_5013416a h0 v0 r0 v1 v2 v3 v4 r1 r2 r3 r4 r5 r6 r7 v5 v6 r8 r9 r10 r11 v7 h1 r12 v8 v9 h2 r13 v10 v11 r14 v12 v13 r15 v14 w15 r16 x156 x157 h3 h4 r17 r18 r19 r20 v18 r21 r22 r23 v19 h2 g1 f21)) [0, 2] (by decide) rfl
                      have hKc := hK.sub (tys' := [(g1, .int)]) [1] rfl
                      have hFc := va_free (wc := (wd_5013416a h0 v0 r0 v1 v2 v3 v4 r1 r2 r3 r4 r5 r6 r7 v5 v6 r8 r9 r10 r11 v7 h1 r12 v8 v9 h2 r13 v10 v11 r14 v12 v13 r15 v14 w15 r16 x156 x157 h3 h4 r17 r18 r19 r20 v18 r21 r22 r23 v19 h2 g1 f21)) hD hS hA [0, 2] rfl
                      refine va_calli (va_runV (As := [.int 3, .int 0]) (rest := [.int t160, .int x121, .ref h4]) ⟨hx, hb, hml, hown, hts⟩ (k_X12_of_3 l dC dI h0 h2 v0 r0 v1 v2 v3 v4 r1 r2 r3 r4 r5 r6 r7 v5 v6 r8 r9 r10 r11 v7 h1 r12 v8 v9 r13 v10 v11 r14 v12 v13 r15 v14 w15 r16 x156 x157 h3 h4 r17 r18 r19 r20 v18 r21 r22 r23 v19 g1 f21 3 ⟨i_v1a, i_v1b⟩ ⟨i_v5a, i_v5b⟩ ⟨i_v6a, i_v6b⟩ ⟨i_v7a, i_v7b⟩ ⟨i_v8a, i_v8b⟩ ⟨i_v9a, i_v9b⟩ ⟨i_v10a, i_v10b⟩ ⟨i_v14a, i_v14b⟩ ⟨i_v18a, i_v18b⟩ ⟨i_v19a, i_v19b⟩ ⟨by decide, by decide⟩ ia_f21.1 H.size) (cwV 2 hts g_X12_tryShelf_5_2 rfl rfl rfl (by decide +kernel) ⟨Nat.le_of_ble_eq_true rfl, Nat.le_of_ble_eq_true rfl⟩) (pv_PV12 hPc hKc hDc (q0 := 0) rfl) rfl rfl hl.1 rfl (lv_room (Nat.le_of_ble_eq_true rfl)) dX12_tryShelf_197 ⟨Nat.le_of_ble_eq_true rfl, Nat.le_of_ble_eq_true rfl⟩) hS (fun q _ h => hFc q h) hFc (fun ra161 u t H1 locs ht hvm hwra161 hB hz1 hk1 hS => ?_)
                      try rw [hwra161] at hB
                      have hkra161_0 : ((3 : Int32)).toInt = 3 := by decide
                      obtain ⟨pt0_ra161, pt1_ra161, pt2_ra161, hP1, hK1, hD1⟩ := hB
                      rw [ht] at hP1
                      obtain ⟨hP2, hD2⟩ := va_join (wr := (wd_20b67a68 h1 g0 f20 h3 g2 fn158 h4 g3 fn159)) (w1 := (wd_5013416a h0 v0 r0 v1 v2 v3 v4 r1 r2 r3 r4 r5 r6 r7 v5 v6 r8 r9 r10 r11 v7 h1 r12 v8 v9 h2 r13 v10 v11 r14 v12 v13 r15 v14 w15 r16 x156 x157 h3 h4 r17 r18 r19 r20 v18 r21 r22 r23 v19 h2 g1 f21)) hP hD [0, 2] [1, 3, 4] rfl rfl (by decide) (by decide) hk1 hFc hP1 hD1
                      clear hP hD hPc hDc hKc hFc hP1 hK1 hD1 hk1 hz1
                      generalize H1 = H at hP2 hS ⊢
                      have hP := hP2.sub (ws' := (wd_90cd99f9 h0 v0 r0 v1 v2 v3 v4 r1 r2 r3 r4 r5 r6 r7 v5 v6 r8 r9 r10 r11 v7 h1 r12 v8 v9 h2 r13 v10 v11 r14 v12 v13 r15 v14 w15 r16 x156 x157 h3 h4 r17 r18 r19 r20 v18 r21 r22 r23 v19 h1 g0 f20 h2 g1 f21 h3 g2 fn158 h4 g3 fn159)) [3, 0, 4, 1, 2] rfl
                      have hD := hD2.sub (ws' := (wd_90cd99f9 h0 v0 r0 v1 v2 v3 v4 r1 r2 r3 r4 r5 r6 r7 v5 v6 r8 r9 r10 r11 v7 h1 r12 v8 v9 h2 r13 v10 v11 r14 v12 v13 r15 v14 w15 r16 x156 x157 h3 h4 r17 r18 r19 r20 v18 r21 r22 r23 v19 h1 g0 f20 h2 g1 f21 h3 g2 fn158 h4 g3 fn159)) [3, 0, 4, 1, 2] (by decide) rfl
                      clear hP2 hD2
                      refine lv_isub hx hb dX12_tryShelf_200 ?_
                      refine lv_topi (fun t162 et162 => ?_)
                      refine va_iast hx hb hK hP hD hS 4 3 rfl rfl (vp_in_iff.mpr ⟨by omega, by omega⟩) dX12_tryShelf_201 (fun H locs hP hD hS => ?_)
                      obtain ⟨fn163, efn163⟩ : ∃ g : Nat → Int32, g = upd fn159 (Int32.toNatClampNeg x121) t162 := ⟨_, rfl⟩
                      rw [← efn163] at hP hD
                      have hP : va_P (dC, dI) vwCl (wd_90cd99f9 h0 v0 r0 v1 v2 v3 v4 r1 r2 r3 r4 r5 r6 r7 v5 v6 r8 r9 r10 r11 v7 h1 r12 v8 v9 h2 r13 v10 v11 r14 v12 v13 r15 v14 w15 r16 x156 x157 h3 h4 r17 r18 r19 r20 v18 r21 r22 r23 v19 h1 g0 f20 h2 g1 f21 h3 g2 fn158 h4 g3 fn163) H := hP
                      have hD : va_D A (wd_90cd99f9 h0 v0 r0 v1 v2 v3 v4 r1 r2 r3 r4 r5 r6 r7 v5 v6 r8 r9 r10 r11 v7 h1 r12 v8 v9 h2 r13 v10 v11 r14 v12 v13 r15 v14 w15 r16 x156 x157 h3 h4 r17 r18 r19 r20 v18 r21 r22 r23 v19 h1 g0 f20 h2 g1 f21 h3 g2 fn158 h4 g3 fn163) := hD
                      exact hJ137 x156 x157 fn158 fn163 H locs ls hP hD hS (lv_sub hl [0, 1, 2, 3, 4, 5, 6] rfl)
                    refine lv_icmp_ne (tgt := 179) hx hb dX12_tryShelf_172 (by decide) (fun c164 => ?_) (fun c164 => ?_)
                    · skip
                      have fc164 : ¬ (t150.toInt = ra151.toInt) := fun h9 => c164 (Int32.toInt_inj.mp h9)
                      have r1c164 := Int32.toInt_lt t150
                      have r2c164 := Int32.toInt_lt ra151
                      have r3c164 := Int32.le_toInt t150
                      have r4c164 := Int32.le_toInt ra151
                      refine lv_iconst (v := 0) hx hb dX12_tryShelf_179 (by decide) ?_
                      exact hJ153 0 H locs ls (by decide) (by decide) hP hD hS (lv_sub hl [0, 1, 2, 3, 4, 5, 6] rfl)
                    · skip
                      have fc164 : t150.toInt = ra151.toInt := congrArg Int32.toInt c164
                      have r1c164 := Int32.toInt_lt t150
                      have r2c164 := Int32.toInt_lt ra151
                      have r3c164 := Int32.le_toInt t150
                      have r4c164 := Int32.le_toInt ra151
                      refine lv_iconst (v := 1) hx hb dX12_tryShelf_175 (by decide) ?_
                      refine lv_goto (tgt := 180) hx hb dX12_tryShelf_176 (by decide) ?_
                      exact hJ153 1 H locs ls (by decide) (by decide) hP hD hS (lv_sub hl [0, 1, 2, 3, 4, 5, 6] rfl)
                · skip
                  have fc139 : ¬ (v26.toInt = 0) := fun h9 => c139 (Int32.toInt_inj.mp h9)
                  refine lv_aload_n hx hb dX12_tryShelf_87 rfl (lv_at hl 2 rfl) ?_
                  refine va_get (D := (dC, dI)) (ci := 12) (v := .ref h4) (C := RX12) (T := TX12) (N := 48) hx hb hts (fun _ h => List.mem_cons_of_mem _ (List.mem_append_right _ h)) hown hK hP 0 rfl rfl 38 (by decide) (hts (.fieldLink RX12 77 "LeftArgumentsModel" "room" "[I") (List.mem_cons_of_mem _ (List.mem_append_left _ (List.mem_of_getElem? (i := 31) rfl)))) (fun _ h9 => h9) rfl dX12_tryShelf_88 ?_
                  refine lv_iload hx hb dX12_tryShelf_91 (lv_at hl 0 rfl) ?_
                  refine va_iald hx hb hK hP 4 3 rfl rfl (vp_in_iff.mpr ⟨by omega, by omega⟩) dX12_tryShelf_93 ?_
                  refine lv_topi (fun t165 et165 => ?_)
                  refine lv_aload_n hx hb dX12_tryShelf_94 rfl (lv_at hl 2 rfl) ?_
                  refine lv_iload_n hx hb dX12_tryShelf_95 rfl (lv_at hl 3 rfl) ?_
                  refine lv_iconst (v := 0) hx hb dX12_tryShelf_96 (by decide) ?_
                  have hPc := hP.sub (ws' := (wd_5013416a h0 v0 r0 v1 v2 v3 v4 r1 r2 r3 r4 r5 r6 r7 v5 v6 r8 r9 r10 r11 v7 h1 r12 v8 v9 h2 r13 v10 v11 r14 v12 v13 r15 v14 w15 r16 x122 x123 h3 h4 r17 r18 r19 r20 v18 r21 r22 r23 v19 h2 g1 f21)) [0, 2] rfl
                  have hDc := hD.sub (ws' := (wd_5013416a h0 v0 r0 v1 v2 v3 v4 r1 r2 r3 r4 r5 r6 r7 v5 v6 r8 r9 r10 r11 v7 h1 r12 v8 v9 h2 r13 v10 v11 r14 v12 v13 r15 v14 w15 r16 x122 x123 h3 h4 r17 r18 r19 r20 v18 r21 r22 r23 v19 h2 g1 f21)) [0, 2] (by decide) rfl
                  have hKc := hK.sub (tys' := [(g1, .int)]) [1] rfl
                  have hFc := va_free (wc := (wd_5013416a h0 v0 r0 v1 v2 v3 v4 r1 r2 r3 r4 r5 r6 r7 v5 v6 r8 r9 r10 r11 v7 h1 r12 v8 v9 h2 r13 v10 v11 r14 v12 v13 r15 v14 w15 r16 x122 x123 h3 h4 r17 r18 r19 r20 v18 r21 r22 r23 v19 h2 g1 f21)) hD hS hA [0, 2] rfl
                  refine va_calli (va_runV (As := [.int 3, .int 0]) (rest := [.int t165]) ⟨hx, hb, hml, hown, hts⟩ (k_X12_of_3 l dC dI h0 h2 v0 r0 v1 v2 v3 v4 r1 r2 r3 r4 r5 r6 r7 v5 v6 r8 r9 r10 r11 v7 h1 r12 v8 v9 r13 v10 v11 r14 v12 v13 r15 v14 w15 r16 x122 x123 h3 h4 r17 r18 r19 r20 v18 r21 r22 r23 v19 g1 f21 3 ⟨i_v1a, i_v1b⟩ ⟨i_v5a, i_v5b⟩ ⟨i_v6a, i_v6b⟩ ⟨i_v7a, i_v7b⟩ ⟨i_v8a, i_v8b⟩ ⟨i_v9a, i_v9b⟩ ⟨i_v10a, i_v10b⟩ ⟨i_v14a, i_v14b⟩ ⟨i_v18a, i_v18b⟩ ⟨i_v19a, i_v19b⟩ ⟨by decide, by decide⟩ ia_f21.1 H.size) (cwV 2 hts g_X12_tryShelf_5_2 rfl rfl rfl (by decide +kernel) ⟨Nat.le_of_ble_eq_true rfl, Nat.le_of_ble_eq_true rfl⟩) (pv_PV12 hPc hKc hDc (q0 := 0) rfl) rfl rfl hl.1 rfl (lv_room (Nat.le_of_ble_eq_true rfl)) dX12_tryShelf_97 ⟨Nat.le_of_ble_eq_true rfl, Nat.le_of_ble_eq_true rfl⟩) hS (fun q _ h => hFc q h) hFc (fun ra166 u t H1 locs ht hvm hwra166 hB hz1 hk1 hS => ?_)
                  try rw [hwra166] at hB
                  have hkra166_0 : ((3 : Int32)).toInt = 3 := by decide
                  obtain ⟨pt0_ra166, pt1_ra166, pt2_ra166, hP1, hK1, hD1⟩ := hB
                  rw [ht] at hP1
                  obtain ⟨hP2, hD2⟩ := va_join (wr := (wd_20b67a68 h1 g0 f20 h3 g2 fn124 h4 g3 fn125)) (w1 := (wd_5013416a h0 v0 r0 v1 v2 v3 v4 r1 r2 r3 r4 r5 r6 r7 v5 v6 r8 r9 r10 r11 v7 h1 r12 v8 v9 h2 r13 v10 v11 r14 v12 v13 r15 v14 w15 r16 x122 x123 h3 h4 r17 r18 r19 r20 v18 r21 r22 r23 v19 h2 g1 f21)) hP hD [0, 2] [1, 3, 4] rfl rfl (by decide) (by decide) hk1 hFc hP1 hD1
                  clear hP hD hPc hDc hKc hFc hP1 hK1 hD1 hk1 hz1
                  generalize H1 = H at hP2 hS ⊢
                  have hP := hP2.sub (ws' := (wd_90cd99f9 h0 v0 r0 v1 v2 v3 v4 r1 r2 r3 r4 r5 r6 r7 v5 v6 r8 r9 r10 r11 v7 h1 r12 v8 v9 h2 r13 v10 v11 r14 v12 v13 r15 v14 w15 r16 x122 x123 h3 h4 r17 r18 r19 r20 v18 r21 r22 r23 v19 h1 g0 f20 h2 g1 f21 h3 g2 fn124 h4 g3 fn125)) [3, 0, 4, 1, 2] rfl
                  have hD := hD2.sub (ws' := (wd_90cd99f9 h0 v0 r0 v1 v2 v3 v4 r1 r2 r3 r4 r5 r6 r7 v5 v6 r8 r9 r10 r11 v7 h1 r12 v8 v9 h2 r13 v10 v11 r14 v12 v13 r15 v14 w15 r16 x122 x123 h3 h4 r17 r18 r19 r20 v18 r21 r22 r23 v19 h1 g0 f20 h2 g1 f21 h3 g2 fn124 h4 g3 fn125)) [3, 0, 4, 1, 2] (by decide) rfl
                  clear hP2 hD2
                  refine lv_iadd hx hb dX12_tryShelf_100 ?_
                  refine lv_topi (fun t167 et167 => ?_)
                  refine lv_aload_n hx hb dX12_tryShelf_101 rfl (lv_at hl 2 rfl) ?_
                  refine va_get (D := (dC, dI)) (ci := 12) (v := .ref h1) (C := RX12) (T := TX12) (N := 48) hx hb hts (fun _ h => List.mem_cons_of_mem _ (List.mem_append_right _ h)) hown hK hP 0 rfl rfl 20 (by decide) (hts (.fieldLink RX12 46 "LeftArgumentsModel" "rule" "[I") (List.mem_cons_of_mem _ (List.mem_append_left _ (List.mem_of_getElem? (i := 37) rfl)))) (fun _ h9 => h9) rfl dX12_tryShelf_102 ?_
                  refine lv_iconst (v := 0) hx hb dX12_tryShelf_105 (by decide) ?_
                  refine va_iald hx hb hK hP 1 0 rfl rfl (pv_c (x := 0) (n := 4) (by decide)) dX12_tryShelf_106 ?_
                  refine lv_topi (fun t168 et168 => ?_)
                  have gat168 : 0 ≤ t168.toInt := by rw [et168]; exact ia_f20.2
                  refine lv_icmp_gt (tgt := 202) hx hb dX12_tryShelf_107 (by decide) (fun c169 => ?_) (fun c169 => ?_)
                  · skip
                    have fc169 : t168.toInt < t167.toInt := Int32.lt_iff_toInt_lt.mp c169
                    have r1c169 := Int32.toInt_lt t167
                    have r2c169 := Int32.toInt_lt t168
                    have r3c169 := Int32.le_toInt t167
                    have r4c169 := Int32.le_toInt t168
                    exact hJ137 x122 x123 fn124 fn125 H locs ls hP hD hS (lv_sub hl [0, 1, 2, 3, 4, 5, 6] rfl)
                  · skip
                    have fc169 : ¬ (t168.toInt < t167.toInt) := fun h9 => c169 (Int32.lt_iff_toInt_lt.mpr h9)
                    have r1c169 := Int32.toInt_lt t167
                    have r2c169 := Int32.toInt_lt t168
                    have r3c169 := Int32.le_toInt t167
                    have r4c169 := Int32.le_toInt t168
                    refine lv_goto (tgt := 123) hx hb dX12_tryShelf_110 (by decide) ?_
                    refine lv_aload_n hx hb dX12_tryShelf_123 rfl (lv_at hl 2 rfl) ?_
                    refine va_get (D := (dC, dI)) (ci := 12) (v := .ref h4) (C := RX12) (T := TX12) (N := 48) hx hb hts (fun _ h => List.mem_cons_of_mem _ (List.mem_append_right _ h)) hown hK hP 0 rfl rfl 38 (by decide) (hts (.fieldLink RX12 77 "LeftArgumentsModel" "room" "[I") (List.mem_cons_of_mem _ (List.mem_append_left _ (List.mem_of_getElem? (i := 31) rfl)))) (fun _ h9 => h9) rfl dX12_tryShelf_124 ?_
                    refine lv_iload hx hb dX12_tryShelf_127 (lv_at hl 0 rfl) ?_
                    refine lv_dup2_11 hx hb dX12_tryShelf_129 rfl rfl ?_
                    refine va_iald hx hb hK hP 4 3 rfl rfl (vp_in_iff.mpr ⟨by omega, by omega⟩) dX12_tryShelf_130 ?_
                    refine lv_topi (fun t170 et170 => ?_)
                    have gmt170 : t170.toInt = t165.toInt := by rw [et170, et165]
                    refine lv_aload_n hx hb dX12_tryShelf_131 rfl (lv_at hl 2 rfl) ?_
                    refine lv_iload_n hx hb dX12_tryShelf_132 rfl (lv_at hl 3 rfl) ?_
                    refine lv_iconst (v := 0) hx hb dX12_tryShelf_133 (by decide) ?_
                    have hPc := hP.sub (ws' := (wd_5013416a h0 v0 r0 v1 v2 v3 v4 r1 r2 r3 r4 r5 r6 r7 v5 v6 r8 r9 r10 r11 v7 h1 r12 v8 v9 h2 r13 v10 v11 r14 v12 v13 r15 v14 w15 r16 x122 x123 h3 h4 r17 r18 r19 r20 v18 r21 r22 r23 v19 h2 g1 f21)) [0, 2] rfl
                    have hDc := hD.sub (ws' := (wd_5013416a h0 v0 r0 v1 v2 v3 v4 r1 r2 r3 r4 r5 r6 r7 v5 v6 r8 r9 r10 r11 v7 h1 r12 v8 v9 h2 r13 v10 v11 r14 v12 v13 r15 v14 w15 r16 x122 x123 h3 h4 r17 r18 r19 r20 v18 r21 r22 r23 v19 h2 g1 f21)) [0, 2] (by decide) rfl
                    have hKc := hK.sub (tys' := [(g1, .int)]) [1] rfl
                    have hFc := va_free (wc := (wd_5013416a h0 v0 r0 v1 v2 v3 v4 r1 r2 r3 r4 r5 r6 r7 v5 v6 r8 r9 r10 r11 v7 h1 r12 v8 v9 h2 r13 v10 v11 r14 v12 v13 r15 v14 w15 r16 x122 x123 h3 h4 r17 r18 r19 r20 v18 r21 r22 r23 v19 h2 g1 f21)) hD hS hA [0, 2] rfl
                    refine va_calli (va_runV (As := [.int 3, .int 0]) (rest := [.int t170, .int x121, .ref h4]) ⟨hx, hb, hml, hown, hts⟩ (k_X12_of_3 l dC dI h0 h2 v0 r0 v1 v2 v3 v4 r1 r2 r3 r4 r5 r6 r7 v5 v6 r8 r9 r10 r11 v7 h1 r12 v8 v9 r13 v10 v11 r14 v12 v13 r15 v14 w15 r16 x122 x123 h3 h4 r17 r18 r19 r20 v18 r21 r22 r23 v19 g1 f21 3 ⟨i_v1a, i_v1b⟩ ⟨i_v5a, i_v5b⟩ ⟨i_v6a, i_v6b⟩ ⟨i_v7a, i_v7b⟩ ⟨i_v8a, i_v8b⟩ ⟨i_v9a, i_v9b⟩ ⟨i_v10a, i_v10b⟩ ⟨i_v14a, i_v14b⟩ ⟨i_v18a, i_v18b⟩ ⟨i_v19a, i_v19b⟩ ⟨by decide, by decide⟩ ia_f21.1 H.size) (cwV 2 hts g_X12_tryShelf_5_2 rfl rfl rfl (by decide +kernel) ⟨Nat.le_of_ble_eq_true rfl, Nat.le_of_ble_eq_true rfl⟩) (pv_PV12 hPc hKc hDc (q0 := 0) rfl) rfl rfl hl.1 rfl (lv_room (Nat.le_of_ble_eq_true rfl)) dX12_tryShelf_134 ⟨Nat.le_of_ble_eq_true rfl, Nat.le_of_ble_eq_true rfl⟩) hS (fun q _ h => hFc q h) hFc (fun ra171 u t H1 locs ht hvm hwra171 hB hz1 hk1 hS => ?_)
                    try rw [hwra171] at hB
                    have hkra171_0 : ((3 : Int32)).toInt = 3 := by decide
                    obtain ⟨pt0_ra171, pt1_ra171, pt2_ra171, hP1, hK1, hD1⟩ := hB
                    rw [ht] at hP1
                    obtain ⟨hP2, hD2⟩ := va_join (wr := (wd_20b67a68 h1 g0 f20 h3 g2 fn124 h4 g3 fn125)) (w1 := (wd_5013416a h0 v0 r0 v1 v2 v3 v4 r1 r2 r3 r4 r5 r6 r7 v5 v6 r8 r9 r10 r11 v7 h1 r12 v8 v9 h2 r13 v10 v11 r14 v12 v13 r15 v14 w15 r16 x122 x123 h3 h4 r17 r18 r19 r20 v18 r21 r22 r23 v19 h2 g1 f21)) hP hD [0, 2] [1, 3, 4] rfl rfl (by decide) (by decide) hk1 hFc hP1 hD1
                    clear hP hD hPc hDc hKc hFc hP1 hK1 hD1 hk1 hz1
                    generalize H1 = H at hP2 hS ⊢
                    have hP := hP2.sub (ws' := (wd_90cd99f9 h0 v0 r0 v1 v2 v3 v4 r1 r2 r3 r4 r5 r6 r7 v5 v6 r8 r9 r10 r11 v7 h1 r12 v8 v9 h2 r13 v10 v11 r14 v12 v13 r15 v14 w15 r16 x122 x123 h3 h4 r17 r18 r19 r20 v18 r21 r22 r23 v19 h1 g0 f20 h2 g1 f21 h3 g2 fn124 h4 g3 fn125)) [3, 0, 4, 1, 2] rfl
                    have hD := hD2.sub (ws' := (wd_90cd99f9 h0 v0 r0 v1 v2 v3 v4 r1 r2 r3 r4 r5 r6 r7 v5 v6 r8 r9 r10 r11 v7 h1 r12 v8 v9 h2 r13 v10 v11 r14 v12 v13 r15 v14 w15 r16 x122 x123 h3 h4 r17 r18 r19 r20 v18 r21 r22 r23 v19 h1 g0 f20 h2 g1 f21 h3 g2 fn124 h4 g3 fn125)) [3, 0, 4, 1, 2] (by decide) rfl
                    clear hP2 hD2
                    refine lv_iadd hx hb dX12_tryShelf_137 ?_
                    refine lv_topi (fun t172 et172 => ?_)
                    refine va_iast hx hb hK hP hD hS 4 3 rfl rfl (vp_in_iff.mpr ⟨by omega, by omega⟩) dX12_tryShelf_138 (fun H locs hP hD hS => ?_)
                    obtain ⟨fn173, efn173⟩ : ∃ g : Nat → Int32, g = upd fn125 (Int32.toNatClampNeg x121) t172 := ⟨_, rfl⟩
                    rw [← efn173] at hP hD
                    have hP : va_P (dC, dI) vwCl (wd_90cd99f9 h0 v0 r0 v1 v2 v3 v4 r1 r2 r3 r4 r5 r6 r7 v5 v6 r8 r9 r10 r11 v7 h1 r12 v8 v9 h2 r13 v10 v11 r14 v12 v13 r15 v14 w15 r16 x122 x123 h3 h4 r17 r18 r19 r20 v18 r21 r22 r23 v19 h1 g0 f20 h2 g1 f21 h3 g2 fn124 h4 g3 fn173) H := hP
                    have hD : va_D A (wd_90cd99f9 h0 v0 r0 v1 v2 v3 v4 r1 r2 r3 r4 r5 r6 r7 v5 v6 r8 r9 r10 r11 v7 h1 r12 v8 v9 h2 r13 v10 v11 r14 v12 v13 r15 v14 w15 r16 x122 x123 h3 h4 r17 r18 r19 r20 v18 r21 r22 r23 v19 h1 g0 f20 h2 g1 f21 h3 g2 fn124 h4 g3 fn173) := hD
                    refine lv_aload_n hx hb dX12_tryShelf_139 rfl (lv_at hl 2 rfl) ?_
                    refine va_get (D := (dC, dI)) (ci := 12) (v := .ref h3) (C := RX12) (T := TX12) (N := 48) hx hb hts (fun _ h => List.mem_cons_of_mem _ (List.mem_append_right _ h)) hown hK hP 0 rfl rfl 37 (by decide) (hts (.fieldLink RX12 74 "LeftArgumentsModel" "onShelf" "[I") (List.mem_cons_of_mem _ (List.mem_append_left _ (List.mem_of_getElem? (i := 15) rfl)))) (fun _ h9 => h9) rfl dX12_tryShelf_140 ?_
                    refine lv_iload_n hx hb dX12_tryShelf_143 rfl (lv_at hl 3 rfl) ?_
                    refine lv_iload hx hb dX12_tryShelf_144 (lv_at hl 0 rfl) ?_
                    refine va_iast hx hb hK hP hD hS 3 2 rfl rfl (pv_c (x := 3) (n := 8) (by decide)) dX12_tryShelf_146 (fun H locs hP hD hS => ?_)
                    obtain ⟨fn174, efn174⟩ : ∃ g : Nat → Int32, g = upd fn124 (Int32.toNatClampNeg 3) x121 := ⟨_, rfl⟩
                    rw [← efn174] at hP hD
                    have hP : va_P (dC, dI) vwCl (wd_90cd99f9 h0 v0 r0 v1 v2 v3 v4 r1 r2 r3 r4 r5 r6 r7 v5 v6 r8 r9 r10 r11 v7 h1 r12 v8 v9 h2 r13 v10 v11 r14 v12 v13 r15 v14 w15 r16 x122 x123 h3 h4 r17 r18 r19 r20 v18 r21 r22 r23 v19 h1 g0 f20 h2 g1 f21 h3 g2 fn174 h4 g3 fn173) H := hP
                    have hD : va_D A (wd_90cd99f9 h0 v0 r0 v1 v2 v3 v4 r1 r2 r3 r4 r5 r6 r7 v5 v6 r8 r9 r10 r11 v7 h1 r12 v8 v9 h2 r13 v10 v11 r14 v12 v13 r15 v14 w15 r16 x122 x123 h3 h4 r17 r18 r19 r20 v18 r21 r22 r23 v19 h1 g0 f20 h2 g1 f21 h3 g2 fn174 h4 g3 fn173) := hD
                    refine lv_aload_n hx hb dX12_tryShelf_147 rfl (lv_at hl 2 rfl) ?_
                    refine lv_iload_n hx hb dX12_tryShelf_148 rfl (lv_at hl 3 rfl) ?_
                    refine lv_iconst (v := 1) hx hb dX12_tryShelf_149 (by decide) ?_
                    refine lv_iadd hx hb dX12_tryShelf_150 ?_
                    refine lv_topi (fun tv175 etv175 => ?_)
                    obtain rfl : tv175 = (4 : Int32) := etv175.trans (by first | rfl | decide)
                    refine lv_bipush (v := 10) hx hb dX12_tryShelf_151 (by decide) ?_
                    refine lv_iload_n hx hb dX12_tryShelf_153 rfl (lv_at hl 4 rfl) ?_
                    refine lv_imul hx hb dX12_tryShelf_154 ?_
                    refine lv_topi (fun t176 et176 => ?_)
                    refine lv_iload hx hb dX12_tryShelf_155 (lv_at hl 0 rfl) ?_
                    refine lv_iadd hx hb dX12_tryShelf_157 ?_
                    refine lv_topi (fun t177 et177 => ?_)
                    refine lv_iload_n hx hb dX12_tryShelf_158 rfl (lv_at hl 5 rfl) ?_
                    refine lv_aload_n hx hb dX12_tryShelf_159 rfl (lv_at hl 2 rfl) ?_
                    refine va_get (D := (dC, dI)) (ci := 12) (v := .ref h4) (C := RX12) (T := TX12) (N := 48) hx hb hts (fun _ h => List.mem_cons_of_mem _ (List.mem_append_right _ h)) hown hK hP 0 rfl rfl 38 (by decide) (hts (.fieldLink RX12 77 "LeftArgumentsModel" "room" "[I") (List.mem_cons_of_mem _ (List.mem_append_left _ (List.mem_of_getElem? (i := 31) rfl)))) (fun _ h9 => h9) rfl dX12_tryShelf_160 ?_
                    refine lv_iload hx hb dX12_tryShelf_163 (lv_at hl 0 rfl) ?_
                    refine va_iald hx hb hK hP 4 3 rfl rfl (vp_in_iff.mpr ⟨by omega, by omega⟩) dX12_tryShelf_165 ?_
                    refine lv_topi (fun t178 et178 => ?_)
                    refine lv_aload_n hx hb dX12_tryShelf_166 rfl (lv_at hl 2 rfl) ?_
                    refine lv_iload_n hx hb dX12_tryShelf_167 rfl (lv_at hl 3 rfl) ?_
                    refine lv_iconst (v := 0) hx hb dX12_tryShelf_168 (by decide) ?_
                    have hPc := hP.sub (ws' := (wd_5013416a h0 v0 r0 v1 v2 v3 v4 r1 r2 r3 r4 r5 r6 r7 v5 v6 r8 r9 r10 r11 v7 h1 r12 v8 v9 h2 r13 v10 v11 r14 v12 v13 r15 v14 w15 r16 x122 x123 h3 h4 r17 r18 r19 r20 v18 r21 r22 r23 v19 h2 g1 f21)) [0, 2] rfl
                    have hDc := hD.sub (ws' := (wd_5013416a h0 v0 r0 v1 v2 v3 v4 r1 r2 r3 r4 r5 r6 r7 v5 v6 r8 r9 r10 r11 v7 h1 r12 v8 v9 h2 r13 v10 v11 r14 v12 v13 r15 v14 w15 r16 x122 x123 h3 h4 r17 r18 r19 r20 v18 r21 r22 r23 v19 h2 g1 f21)) [0, 2] (by decide) rfl
                    have hKc := hK.sub (tys' := [(g1, .int)]) [1] rfl
                    have hFc := va_free (wc := (wd_5013416a h0 v0 r0 v1 v2 v3 v4 r1 r2 r3 r4 r5 r6 r7 v5 v6 r8 r9 r10 r11 v7 h1 r12 v8 v9 h2 r13 v10 v11 r14 v12 v13 r15 v14 w15 r16 x122 x123 h3 h4 r17 r18 r19 r20 v18 r21 r22 r23 v19 h2 g1 f21)) hD hS hA [0, 2] rfl
                    refine va_calli (va_runV (As := [.int 3, .int 0]) (rest := [.int t178, .int v25, .int t177, .int 4, .ref h0]) ⟨hx, hb, hml, hown, hts⟩ (k_X12_of_3 l dC dI h0 h2 v0 r0 v1 v2 v3 v4 r1 r2 r3 r4 r5 r6 r7 v5 v6 r8 r9 r10 r11 v7 h1 r12 v8 v9 r13 v10 v11 r14 v12 v13 r15 v14 w15 r16 x122 x123 h3 h4 r17 r18 r19 r20 v18 r21 r22 r23 v19 g1 f21 3 ⟨i_v1a, i_v1b⟩ ⟨i_v5a, i_v5b⟩ ⟨i_v6a, i_v6b⟩ ⟨i_v7a, i_v7b⟩ ⟨i_v8a, i_v8b⟩ ⟨i_v9a, i_v9b⟩ ⟨i_v10a, i_v10b⟩ ⟨i_v14a, i_v14b⟩ ⟨i_v18a, i_v18b⟩ ⟨i_v19a, i_v19b⟩ ⟨by decide, by decide⟩ ia_f21.1 H.size) (cwV 2 hts g_X12_tryShelf_5_2 rfl rfl rfl (by decide +kernel) ⟨Nat.le_of_ble_eq_true rfl, Nat.le_of_ble_eq_true rfl⟩) (pv_PV12 hPc hKc hDc (q0 := 0) rfl) rfl rfl hl.1 rfl (lv_room (Nat.le_of_ble_eq_true rfl)) dX12_tryShelf_169 ⟨Nat.le_of_ble_eq_true rfl, Nat.le_of_ble_eq_true rfl⟩) hS (fun q _ h => hFc q h) hFc (fun ra179 u t H1 locs ht hvm hwra179 hB hz1 hk1 hS => ?_)
                    try rw [hwra179] at hB
                    have hkra179_0 : ((3 : Int32)).toInt = 3 := by decide
                    obtain ⟨pt0_ra179, pt1_ra179, pt2_ra179, hP1, hK1, hD1⟩ := hB
                    rw [ht] at hP1
                    obtain ⟨hP2, hD2⟩ := va_join (wr := (wd_20b67a68 h1 g0 f20 h3 g2 fn174 h4 g3 fn173)) (w1 := (wd_5013416a h0 v0 r0 v1 v2 v3 v4 r1 r2 r3 r4 r5 r6 r7 v5 v6 r8 r9 r10 r11 v7 h1 r12 v8 v9 h2 r13 v10 v11 r14 v12 v13 r15 v14 w15 r16 x122 x123 h3 h4 r17 r18 r19 r20 v18 r21 r22 r23 v19 h2 g1 f21)) hP hD [0, 2] [1, 3, 4] rfl rfl (by decide) (by decide) hk1 hFc hP1 hD1
                    clear hP hD hPc hDc hKc hFc hP1 hK1 hD1 hk1 hz1
                    generalize H1 = H at hP2 hS ⊢
                    have hP := hP2.sub (ws' := (wd_90cd99f9 h0 v0 r0 v1 v2 v3 v4 r1 r2 r3 r4 r5 r6 r7 v5 v6 r8 r9 r10 r11 v7 h1 r12 v8 v9 h2 r13 v10 v11 r14 v12 v13 r15 v14 w15 r16 x122 x123 h3 h4 r17 r18 r19 r20 v18 r21 r22 r23 v19 h1 g0 f20 h2 g1 f21 h3 g2 fn174 h4 g3 fn173)) [3, 0, 4, 1, 2] rfl
                    have hD := hD2.sub (ws' := (wd_90cd99f9 h0 v0 r0 v1 v2 v3 v4 r1 r2 r3 r4 r5 r6 r7 v5 v6 r8 r9 r10 r11 v7 h1 r12 v8 v9 h2 r13 v10 v11 r14 v12 v13 r15 v14 w15 r16 x122 x123 h3 h4 r17 r18 r19 r20 v18 r21 r22 r23 v19 h1 g0 f20 h2 g1 f21 h3 g2 fn174 h4 g3 fn173)) [3, 0, 4, 1, 2] (by decide) rfl
                    clear hP2 hD2
                    have hJ181 : ∀ (x180 : Int32) (H : Heap) (locs : List Loc) (ls : Array Slot), 0 ≤ x180.toInt → x180.toInt ≤ 1 → va_P (dC, dI) vwCl (wd_90cd99f9 h0 v0 r0 v1 v2 v3 v4 r1 r2 r3 r4 r5 r6 r7 v5 v6 r8 r9 r10 r11 v7 h1 r12 v8 v9 h2 r13 v10 v11 r14 v12 v13 r15 v14 w15 r16 x122 x123 h3 h4 r17 r18 r19 r20 v18 r21 r22 r23 v19 h1 g0 f20 h2 g1 f21 h3 g2 fn174 h4 g3 fn173) H → va_D A (wd_90cd99f9 h0 v0 r0 v1 v2 v3 v4 r1 r2 r3 r4 r5 r6 r7 v5 v6 r8 r9 r10 r11 v7 h1 r12 v8 v9 h2 r13 v10 v11 r14 v12 v13 r15 v14 w15 r16 x122 x123 h3 h4 r17 r18 r19 r20 v18 r21 r22 r23 v19 h1 g0 f20 h2 g1 f21 h3 g2 fn174 h4 g3 fn173) → va_S A s.heap H locs → lv_has ls 7 [(6, .int x121), (5, .int x104), (0, .ref h0), (1, .int 3), (2, .int v24), (3, .int v25), (4, .int v26)] → W p l e ({ frames := 8, cells := 0, slots := 0, locals := 192 }) s m ([.ref h0, .int 3, .int v24, .int v25, .int v26] : List Value).toArray below meth c H locs 0 0 Q (F0 m 180 ls [.int x180, .int v25, .int t177, .int 4, .ref h0]) := by
                      intro x180 H locs ls qa_x180 qb_x180 hP hD hS hl
                      refine lv_iadd hx hb dX12_tryShelf_180 ?_
                      refine lv_topi (fun t182 et182 => ?_)
                      have r5t182v25 := Int32.le_toInt v25; have r6t182v25 := Int32.toInt_lt v25
                      have gt182 : t182.toInt = v25.toInt + x180.toInt := pv_add (a := v25.toInt) (b := x180.toInt) et182 rfl rfl (by omega) (by omega)
                      refine lv_iload hx hb dX12_tryShelf_181 (lv_at hl 6 rfl) ?_
                      have hPc := hP.sub (ws' := (wd_90cd99f9 h0 v0 r0 v1 v2 v3 v4 r1 r2 r3 r4 r5 r6 r7 v5 v6 r8 r9 r10 r11 v7 h1 r12 v8 v9 h2 r13 v10 v11 r14 v12 v13 r15 v14 w15 r16 x122 x123 h3 h4 r17 r18 r19 r20 v18 r21 r22 r23 v19 h1 g0 f20 h2 g1 f21 h3 g2 fn174 h4 g3 fn173)) [0, 1, 2, 3, 4] rfl
                      have hDc := hD.sub (ws' := (wd_90cd99f9 h0 v0 r0 v1 v2 v3 v4 r1 r2 r3 r4 r5 r6 r7 v5 v6 r8 r9 r10 r11 v7 h1 r12 v8 v9 h2 r13 v10 v11 r14 v12 v13 r15 v14 w15 r16 x122 x123 h3 h4 r17 r18 r19 r20 v18 r21 r22 r23 v19 h1 g0 f20 h2 g1 f21 h3 g2 fn174 h4 g3 fn173)) [0, 1, 2, 3, 4] (by decide) rfl
                      have hKc := hK.sub (tys' := [(g0, .int), (g1, .int), (g2, .int), (g3, .int)]) [0, 1, 2, 3] rfl
                      have hFc := va_free (wc := (wd_90cd99f9 h0 v0 r0 v1 v2 v3 v4 r1 r2 r3 r4 r5 r6 r7 v5 v6 r8 r9 r10 r11 v7 h1 r12 v8 v9 h2 r13 v10 v11 r14 v12 v13 r15 v14 w15 r16 x122 x123 h3 h4 r17 r18 r19 r20 v18 r21 r22 r23 v19 h1 g0 f20 h2 g1 f21 h3 g2 fn174 h4 g3 fn173)) hD hS hA [0, 1, 2, 3, 4] rfl
                      refine va_callv (va_runV (As := [.int 4, .int t177, .int t182, .int v26]) (rest := []) ⟨hx, hb, hml, hown, hts⟩ (k_X12_tryShelf_4 l dC dI h0 h1 h2 h3 h4 v0 r0 v1 v2 v3 v4 r1 r2 r3 r4 r5 r6 r7 v5 v6 r8 r9 r10 r11 v7 r12 v8 v9 r13 v10 v11 r14 v12 v13 r15 v14 w15 r16 x122 x123 r17 r18 r19 r20 v18 r21 r22 r23 v19 g0 f20 g1 f21 g2 fn174 g3 fn173 t177 t182 v26 ⟨i_v1a, i_v1b⟩ ⟨i_v5a, i_v5b⟩ ⟨i_v6a, i_v6b⟩ ⟨i_v7a, i_v7b⟩ ⟨i_v8a, i_v8b⟩ ⟨i_v9a, i_v9b⟩ ⟨i_v10a, i_v10b⟩ ⟨i_v14a, i_v14b⟩ ⟨i_v18a, i_v18b⟩ ⟨i_v19a, i_v19b⟩ ⟨i_v26a, i_v26b⟩ ia_f20 ia_f21 H.size) (cwV 4 hts g_X12_tryShelf_5_4 rfl rfl rfl (by decide +kernel) ⟨Nat.le_of_ble_eq_true rfl, Nat.le_of_ble_eq_true rfl⟩) (pv_PV12 hPc hKc hDc (q0 := 0) rfl) rfl rfl hl.1 rfl (lv_room (Nat.le_of_ble_eq_true rfl)) dX12_tryShelf_183 ⟨Nat.le_of_ble_eq_true rfl, Nat.le_of_ble_eq_true rfl⟩) hS (fun q _ h => hFc q h) hFc (fun u t H1 locs ht hvm hwra183 hB hz1 hk1 hS => ?_)
                      obtain ⟨x184, x185, fn186, fn187, hP1, hK1, hD1⟩ := hB
                      rw [ht] at hP1
                      obtain ⟨hP2, hD2⟩ := va_join (wr := []) (w1 := (wd_90cd99f9 h0 v0 r0 v1 v2 v3 v4 r1 r2 r3 r4 r5 r6 r7 v5 v6 r8 r9 r10 r11 v7 h1 r12 v8 v9 h2 r13 v10 v11 r14 v12 v13 r15 v14 w15 r16 x184 x185 h3 h4 r17 r18 r19 r20 v18 r21 r22 r23 v19 h1 g0 f20 h2 g1 f21 h3 g2 fn186 h4 g3 fn187)) hP hD [0, 1, 2, 3, 4] [] rfl rfl (by decide) (by decide) hk1 hFc hP1 hD1
                      clear hP hD hPc hDc hKc hFc hP1 hK1 hD1 hk1 hz1
                      generalize H1 = H at hP2 hS ⊢
                      have hP : va_P (dC, dI) vwCl (wd_90cd99f9 h0 v0 r0 v1 v2 v3 v4 r1 r2 r3 r4 r5 r6 r7 v5 v6 r8 r9 r10 r11 v7 h1 r12 v8 v9 h2 r13 v10 v11 r14 v12 v13 r15 v14 w15 r16 x184 x185 h3 h4 r17 r18 r19 r20 v18 r21 r22 r23 v19 h1 g0 f20 h2 g1 f21 h3 g2 fn186 h4 g3 fn187) H := hP2
                      have hD : va_D A (wd_90cd99f9 h0 v0 r0 v1 v2 v3 v4 r1 r2 r3 r4 r5 r6 r7 v5 v6 r8 r9 r10 r11 v7 h1 r12 v8 v9 h2 r13 v10 v11 r14 v12 v13 r15 v14 w15 r16 x184 x185 h3 h4 r17 r18 r19 r20 v18 r21 r22 r23 v19 h1 g0 f20 h2 g1 f21 h3 g2 fn186 h4 g3 fn187) := hD2
                      clear hP2 hD2
                      refine lv_aload_n hx hb dX12_tryShelf_186 rfl (lv_at hl 2 rfl) ?_
                      refine va_get (D := (dC, dI)) (ci := 12) (v := .ref h4) (C := RX12) (T := TX12) (N := 48) hx hb hts (fun _ h => List.mem_cons_of_mem _ (List.mem_append_right _ h)) hown hK hP 0 rfl rfl 38 (by decide) (hts (.fieldLink RX12 77 "LeftArgumentsModel" "room" "[I") (List.mem_cons_of_mem _ (List.mem_append_left _ (List.mem_of_getElem? (i := 31) rfl)))) (fun _ h9 => h9) rfl dX12_tryShelf_187 ?_
                      refine lv_iload hx hb dX12_tryShelf_190 (lv_at hl 0 rfl) ?_
                      refine lv_dup2_11 hx hb dX12_tryShelf_192 rfl rfl ?_
                      refine va_iald hx hb hK hP 4 3 rfl rfl (vp_in_iff.mpr ⟨by omega, by omega⟩) dX12_tryShelf_193 ?_
                      refine lv_topi (fun t188 et188 => ?_)
                      refine lv_aload_n hx hb dX12_tryShelf_194 rfl (lv_at hl 2 rfl) ?_
                      refine lv_iload_n hx hb dX12_tryShelf_195 rfl (lv_at hl 3 rfl) ?_
                      refine lv_iconst (v := 0) hx hb dX12_tryShelf_196 (by decide) ?_
                      have hPc := hP.sub (ws' := (wd_5013416a h0 v0 r0 v1 v2 v3 v4 r1 r2 r3 r4 r5 r6 r7 v5 v6 r8 r9 r10 r11 v7 h1 r12 v8 v9 h2 r13 v10 v11 r14 v12 v13 r15 v14 w15 r16 x184 x185 h3 h4 r17 r18 r19 r20 v18 r21 r22 r23 v19 h2 g1 f21)) [0, 2] rfl
                      have hDc := hD.sub (ws' := (wd_5013416a h0 v0 r0 v1 v2 v3 v4 r1 r2 r3 r4 r5 r6 r7 v5 v6 r8 r9 r10 r11 v7 h1 r12 v8 v9 h2 r13 v10 v11 r14 v12 v13 r15 v14 w15 r16 x184 x185 h3 h4 r17 r18 r19 r20 v18 r21 r22 r23 v19 h2 g1 f21)) [0, 2] (by decide) rfl
                      have hKc := hK.sub (tys' := [(g1, .int)]) [1] rfl
                      have hFc := va_free (wc := (wd_5013416a h0 v0 r0 v1 v2 v3 v4 r1 r2 r3 r4 r5 r6 r7 v5 v6 r8 r9 r10 r11 v7 h1 r12 v8 v9 h2 r13 v10 v11 r14 v12 v13 r15 v14 w15 r16 x184 x185 h3 h4 r17 r18 r19 r20 v18 r21 r22 r23 v19 h2 g1 f21)) hD hS hA [0, 2] rfl
                      refine va_calli (va_runV (As := [.int 3, .int 0]) (rest := [.int t188, .int x121, .ref h4]) ⟨hx, hb, hml, hown, hts⟩ (k_X12_of_3 l dC dI h0 h2 v0 r0 v1 v2 v3 v4 r1 r2 r3 r4 r5 r6 r7 v5 v6 r8 r9 r10 r11 v7 h1 r12 v8 v9 r13 v10 v11 r14 v12 v13 r15 v14 w15 r16 x184 x185 h3 h4 r17 r18 r19 r20 v18 r21 r22 r23 v19 g1 f21 3 ⟨i_v1a, i_v1b⟩ ⟨i_v5a, i_v5b⟩ ⟨i_v6a, i_v6b⟩ ⟨i_v7a, i_v7b⟩ ⟨i_v8a, i_v8b⟩ ⟨i_v9a, i_v9b⟩ ⟨i_v10a, i_v10b⟩ ⟨i_v14a, i_v14b⟩ ⟨i_v18a, i_v18b⟩ ⟨i_v19a, i_v19b⟩ ⟨by decide, by decide⟩ ia_f21.1 H.size) (cwV 2 hts g_X12_tryShelf_5_2 rfl rfl rfl (by decide +kernel) ⟨Nat.le_of_ble_eq_true rfl, Nat.le_of_ble_eq_true rfl⟩) (pv_PV12 hPc hKc hDc (q0 := 0) rfl) rfl rfl hl.1 rfl (lv_room (Nat.le_of_ble_eq_true rfl)) dX12_tryShelf_197 ⟨Nat.le_of_ble_eq_true rfl, Nat.le_of_ble_eq_true rfl⟩) hS (fun q _ h => hFc q h) hFc (fun ra189 u t H1 locs ht hvm hwra189 hB hz1 hk1 hS => ?_)
                      try rw [hwra189] at hB
                      have hkra189_0 : ((3 : Int32)).toInt = 3 := by decide
                      obtain ⟨pt0_ra189, pt1_ra189, pt2_ra189, hP1, hK1, hD1⟩ := hB
                      rw [ht] at hP1
                      obtain ⟨hP2, hD2⟩ := va_join (wr := (wd_20b67a68 h1 g0 f20 h3 g2 fn186 h4 g3 fn187)) (w1 := (wd_5013416a h0 v0 r0 v1 v2 v3 v4 r1 r2 r3 r4 r5 r6 r7 v5 v6 r8 r9 r10 r11 v7 h1 r12 v8 v9 h2 r13 v10 v11 r14 v12 v13 r15 v14 w15 r16 x184 x185 h3 h4 r17 r18 r19 r20 v18 r21 r22 r23 v19 h2 g1 f21)) hP hD [0, 2] [1, 3, 4] rfl rfl (by decide) (by decide) hk1 hFc hP1 hD1
                      clear hP hD hPc hDc hKc hFc hP1 hK1 hD1 hk1 hz1
                      generalize H1 = H at hP2 hS ⊢
                      have hP := hP2.sub (ws' := (wd_90cd99f9 h0 v0 r0 v1 v2 v3 v4 r1 r2 r3 r4 r5 r6 r7 v5 v6 r8 r9 r10 r11 v7 h1 r12 v8 v9 h2 r13 v10 v11 r14 v12 v13 r15 v14 w15 r16 x184 x185 h3 h4 r17 r18 r19 r20 v18 r21 r22 r23 v19 h1 g0 f20 h2 g1 f21 h3 g2 fn186 h4 g3 fn187)) [3, 0, 4, 1, 2] rfl
                      have hD := hD2.sub (ws' := (wd_90cd99f9 h0 v0 r0 v1 v2 v3 v4 r1 r2 r3 r4 r5 r6 r7 v5 v6 r8 r9 r10 r11 v7 h1 r12 v8 v9 h2 r13 v10 v11 r14 v12 v13 r15 v14 w15 r16 x184 x185 h3 h4 r17 r18 r19 r20 v18 r21 r22 r23 v19 h1 g0 f20 h2 g1 f21 h3 g2 fn186 h4 g3 fn187)) [3, 0, 4, 1, 2] (by decide) rfl
                      clear hP2 hD2
                      refine lv_isub hx hb dX12_tryShelf_200 ?_
                      refine lv_topi (fun t190 et190 => ?_)
                      refine va_iast hx hb hK hP hD hS 4 3 rfl rfl (vp_in_iff.mpr ⟨by omega, by omega⟩) dX12_tryShelf_201 (fun H locs hP hD hS => ?_)
                      obtain ⟨fn191, efn191⟩ : ∃ g : Nat → Int32, g = upd fn187 (Int32.toNatClampNeg x121) t190 := ⟨_, rfl⟩
                      rw [← efn191] at hP hD
                      have hP : va_P (dC, dI) vwCl (wd_90cd99f9 h0 v0 r0 v1 v2 v3 v4 r1 r2 r3 r4 r5 r6 r7 v5 v6 r8 r9 r10 r11 v7 h1 r12 v8 v9 h2 r13 v10 v11 r14 v12 v13 r15 v14 w15 r16 x184 x185 h3 h4 r17 r18 r19 r20 v18 r21 r22 r23 v19 h1 g0 f20 h2 g1 f21 h3 g2 fn186 h4 g3 fn191) H := hP
                      have hD : va_D A (wd_90cd99f9 h0 v0 r0 v1 v2 v3 v4 r1 r2 r3 r4 r5 r6 r7 v5 v6 r8 r9 r10 r11 v7 h1 r12 v8 v9 h2 r13 v10 v11 r14 v12 v13 r15 v14 w15 r16 x184 x185 h3 h4 r17 r18 r19 r20 v18 r21 r22 r23 v19 h1 g0 f20 h2 g1 f21 h3 g2 fn186 h4 g3 fn191) := hD
                      exact hJ137 x184 x185 fn186 fn191 H locs ls hP hD hS (lv_sub hl [0, 1, 2, 3, 4, 5, 6] rfl)
                    refine lv_icmp_ne (tgt := 179) hx hb dX12_tryShelf_172 (by decide) (fun c192 => ?_) (fun c192 => ?_)
                    · skip
                      have fc192 : ¬ (t178.toInt = ra179.toInt) := fun h9 => c192 (Int32.toInt_inj.mp h9)
                      have r1c192 := Int32.toInt_lt t178
                      have r2c192 := Int32.toInt_lt ra179
                      have r3c192 := Int32.le_toInt t178
                      have r4c192 := Int32.le_toInt ra179
                      refine lv_iconst (v := 0) hx hb dX12_tryShelf_179 (by decide) ?_
                      exact hJ181 0 H locs ls (by decide) (by decide) hP hD hS (lv_sub hl [0, 1, 2, 3, 4, 5, 6] rfl)
                    · skip
                      have fc192 : t178.toInt = ra179.toInt := congrArg Int32.toInt c192
                      have r1c192 := Int32.toInt_lt t178
                      have r2c192 := Int32.toInt_lt ra179
                      have r3c192 := Int32.le_toInt t178
                      have r4c192 := Int32.le_toInt ra179
                      refine lv_iconst (v := 1) hx hb dX12_tryShelf_175 (by decide) ?_
                      refine lv_goto (tgt := 180) hx hb dX12_tryShelf_176 (by decide) ?_
                      exact hJ181 1 H locs ls (by decide) (by decide) hP hD hS (lv_sub hl [0, 1, 2, 3, 4, 5, 6] rfl)
          exact hL131 _ 0 v16 v17 f22 f23 H locs ls (by decide) (by decide) (Nat.lt_succ_self _) hP hD hS (lv_sub hl [0, 1, 2, 3, 4, 5, 6] rfl)
        refine lv_if_eq (tgt := 68) hx hb dX12_tryShelf_56 (by decide) (fun c193 => ?_) (fun c193 => ?_)
        · skip
          have fc193 : v26.toInt = 0 := congrArg Int32.toInt c193
          refine lv_bipush (v := 8) hx hb dX12_tryShelf_68 (by decide) ?_
          exact hJ105 8 H locs ls (by decide) (by decide) hP hD hS (lv_sub hl [0, 1, 2, 3, 4] rfl)
        · skip
          have fc193 : ¬ (v26.toInt = 0) := fun h9 => c193 (Int32.toInt_inj.mp h9)
          refine lv_aload_n hx hb dX12_tryShelf_59 rfl (lv_at hl 0 rfl) ?_
          refine va_get (D := (dC, dI)) (ci := 12) (v := .ref h1) (C := RX12) (T := TX12) (N := 48) hx hb hts (fun _ h => List.mem_cons_of_mem _ (List.mem_append_right _ h)) hown hK hP 0 rfl rfl 20 (by decide) (hts (.fieldLink RX12 46 "LeftArgumentsModel" "rule" "[I") (List.mem_cons_of_mem _ (List.mem_append_left _ (List.mem_of_getElem? (i := 37) rfl)))) (fun _ h9 => h9) rfl dX12_tryShelf_60 ?_
          refine lv_iconst (v := 1) hx hb dX12_tryShelf_63 (by decide) ?_
          refine va_iald hx hb hK hP 1 0 rfl rfl (pv_c (x := 1) (n := 4) (by decide)) dX12_tryShelf_64 ?_
          refine lv_topi (fun t194 et194 => ?_)
          have gat194 : 0 ≤ t194.toInt ∧ t194.toInt ≤ 5 := by rw [et194]; exact ia_f20.1
          refine lv_goto (tgt := 70) hx hb dX12_tryShelf_65 (by decide) ?_
          exact hJ105 t194 H locs ls (by first | omega | decide) (by first | omega | decide) hP hD hS (lv_sub hl [0, 1, 2, 3, 4] rfl)
      · skip
        have fc103 : ra102.toInt = 0 := congrArg Int32.toInt c103
        have q0wra102 := wra102 (by omega)
        refine lv_aload_n hx hb dX12_tryShelf_42 rfl (lv_at hl 0 rfl) ?_
        refine lv_iload_n hx hb dX12_tryShelf_43 rfl (lv_at hl 1 rfl) ?_
        refine lv_iconst (v := 1) hx hb dX12_tryShelf_44 (by decide) ?_
        refine lv_iadd hx hb dX12_tryShelf_45 ?_
        refine lv_topi (fun tv195 etv195 => ?_)
        obtain rfl : tv195 = (4 : Int32) := etv195.trans (by first | rfl | decide)
        refine lv_iload_n hx hb dX12_tryShelf_46 rfl (lv_at hl 2 rfl) ?_
        refine lv_iload_n hx hb dX12_tryShelf_47 rfl (lv_at hl 3 rfl) ?_
        refine lv_iload hx hb dX12_tryShelf_48 (lv_at hl 4 rfl) ?_
        have hPc := hP.sub (ws' := (wd_90cd99f9 h0 v0 r0 v1 v2 v3 v4 r1 r2 r3 r4 r5 r6 r7 v5 v6 r8 r9 r10 r11 v7 h1 r12 v8 v9 h2 r13 v10 v11 r14 v12 v13 r15 v14 w15 r16 v16 v17 h3 h4 r17 r18 r19 r20 v18 r21 r22 r23 v19 h1 g0 f20 h2 g1 f21 h3 g2 f22 h4 g3 f23)) [0, 1, 2, 3, 4] rfl
        have hDc := hD.sub (ws' := (wd_90cd99f9 h0 v0 r0 v1 v2 v3 v4 r1 r2 r3 r4 r5 r6 r7 v5 v6 r8 r9 r10 r11 v7 h1 r12 v8 v9 h2 r13 v10 v11 r14 v12 v13 r15 v14 w15 r16 v16 v17 h3 h4 r17 r18 r19 r20 v18 r21 r22 r23 v19 h1 g0 f20 h2 g1 f21 h3 g2 f22 h4 g3 f23)) [0, 1, 2, 3, 4] (by decide) rfl
        have hKc := hK.sub (tys' := [(g0, .int), (g1, .int), (g2, .int), (g3, .int)]) [0, 1, 2, 3] rfl
        have hFc := va_free (wc := (wd_90cd99f9 h0 v0 r0 v1 v2 v3 v4 r1 r2 r3 r4 r5 r6 r7 v5 v6 r8 r9 r10 r11 v7 h1 r12 v8 v9 h2 r13 v10 v11 r14 v12 v13 r15 v14 w15 r16 v16 v17 h3 h4 r17 r18 r19 r20 v18 r21 r22 r23 v19 h1 g0 f20 h2 g1 f21 h3 g2 f22 h4 g3 f23)) hD hS hA [0, 1, 2, 3, 4] rfl
        refine va_callv (va_runV (As := [.int 4, .int v24, .int v25, .int v26]) (rest := []) ⟨hx, hb, hml, hown, hts⟩ (k_X12_tryShelf_4 l dC dI h0 h1 h2 h3 h4 v0 r0 v1 v2 v3 v4 r1 r2 r3 r4 r5 r6 r7 v5 v6 r8 r9 r10 r11 v7 r12 v8 v9 r13 v10 v11 r14 v12 v13 r15 v14 w15 r16 v16 v17 r17 r18 r19 r20 v18 r21 r22 r23 v19 g0 f20 g1 f21 g2 f22 g3 f23 v24 v25 v26 ⟨i_v1a, i_v1b⟩ ⟨i_v5a, i_v5b⟩ ⟨i_v6a, i_v6b⟩ ⟨i_v7a, i_v7b⟩ ⟨i_v8a, i_v8b⟩ ⟨i_v9a, i_v9b⟩ ⟨i_v10a, i_v10b⟩ ⟨i_v14a, i_v14b⟩ ⟨i_v18a, i_v18b⟩ ⟨i_v19a, i_v19b⟩ ⟨i_v26a, i_v26b⟩ ia_f20 ia_f21 H.size) (cwV 4 hts g_X12_tryShelf_5_4 rfl rfl rfl (by decide +kernel) ⟨Nat.le_of_ble_eq_true rfl, Nat.le_of_ble_eq_true rfl⟩) (pv_PV12 hPc hKc hDc (q0 := 0) rfl) rfl rfl hl.1 rfl (lv_room (Nat.le_of_ble_eq_true rfl)) dX12_tryShelf_50 ⟨Nat.le_of_ble_eq_true rfl, Nat.le_of_ble_eq_true rfl⟩) hS (fun q _ h => hFc q h) hFc (fun u t H1 locs ht hvm hwra196 hB hz1 hk1 hS => ?_)
        obtain ⟨x197, x198, fn199, fn200, hP1, hK1, hD1⟩ := hB
        rw [ht] at hP1
        obtain ⟨hP2, hD2⟩ := va_join (wr := []) (w1 := (wd_90cd99f9 h0 v0 r0 v1 v2 v3 v4 r1 r2 r3 r4 r5 r6 r7 v5 v6 r8 r9 r10 r11 v7 h1 r12 v8 v9 h2 r13 v10 v11 r14 v12 v13 r15 v14 w15 r16 x197 x198 h3 h4 r17 r18 r19 r20 v18 r21 r22 r23 v19 h1 g0 f20 h2 g1 f21 h3 g2 fn199 h4 g3 fn200)) hP hD [0, 1, 2, 3, 4] [] rfl rfl (by decide) (by decide) hk1 hFc hP1 hD1
        clear hP hD hPc hDc hKc hFc hP1 hK1 hD1 hk1 hz1
        generalize H1 = H at hP2 hS ⊢
        have hP : va_P (dC, dI) vwCl (wd_90cd99f9 h0 v0 r0 v1 v2 v3 v4 r1 r2 r3 r4 r5 r6 r7 v5 v6 r8 r9 r10 r11 v7 h1 r12 v8 v9 h2 r13 v10 v11 r14 v12 v13 r15 v14 w15 r16 x197 x198 h3 h4 r17 r18 r19 r20 v18 r21 r22 r23 v19 h1 g0 f20 h2 g1 f21 h3 g2 fn199 h4 g3 fn200) H := hP2
        have hD : va_D A (wd_90cd99f9 h0 v0 r0 v1 v2 v3 v4 r1 r2 r3 r4 r5 r6 r7 v5 v6 r8 r9 r10 r11 v7 h1 r12 v8 v9 h2 r13 v10 v11 r14 v12 v13 r15 v14 w15 r16 x197 x198 h3 h4 r17 r18 r19 r20 v18 r21 r22 r23 v19 h1 g0 f20 h2 g1 f21 h3 g2 fn199 h4 g3 fn200) := hD2
        clear hP2 hD2
        subst hQ
        have hP9 := hP.sub (ws' := (wd_90cd99f9 h0 v0 r0 v1 v2 v3 v4 r1 r2 r3 r4 r5 r6 r7 v5 v6 r8 r9 r10 r11 v7 h1 r12 v8 v9 h2 r13 v10 v11 r14 v12 v13 r15 v14 w15 r16 x197 x198 h3 h4 r17 r18 r19 r20 v18 r21 r22 r23 v19 h1 g0 f20 h2 g1 f21 h3 g2 fn199 h4 g3 fn200)) [0, 1, 2, 3, 4] rfl
        have hD9 := hD.sub (ws' := (wd_90cd99f9 h0 v0 r0 v1 v2 v3 v4 r1 r2 r3 r4 r5 r6 r7 v5 v6 r8 r9 r10 r11 v7 h1 r12 v8 v9 h2 r13 v10 v11 r14 v12 v13 r15 v14 w15 r16 x197 x198 h3 h4 r17 r18 r19 r20 v18 r21 r22 r23 v19 h1 g0 f20 h2 g1 f21 h3 g2 fn199 h4 g3 fn200)) [0, 1, 2, 3, 4] (by decide) rfl
        have hK9 := hK.sub (tys' := []) [] rfl
        exact W.vret hx hb hr (fun t ht hW => ⟨⟨(), rfl, trivial, ⟨x197, x198, fn199, fn200, by rw [ht]; exact hP9, va_K.moved hW.alike hK9, hD9⟩⟩, hS.F ht⟩) hS.2.2 dX12_tryShelf_53
    · skip
      have fc101 : ¬ (v25.toInt < v17.toInt) := fun h9 => c101 (Int32.lt_iff_toInt_lt.mpr h9)
      have r1c101 := Int32.toInt_lt v25
      have r2c101 := Int32.toInt_lt v17
      have r3c101 := Int32.le_toInt v25
      have r4c101 := Int32.le_toInt v17
      subst hQ
      have hP9 := hP.sub (ws' := (wd_90cd99f9 h0 v0 r0 v1 v2 v3 v4 r1 r2 r3 r4 r5 r6 r7 v5 v6 r8 r9 r10 r11 v7 h1 r12 v8 v9 h2 r13 v10 v11 r14 v12 v13 r15 v14 w15 r16 v16 v17 h3 h4 r17 r18 r19 r20 v18 r21 r22 r23 v19 h1 g0 f20 h2 g1 f21 h3 g2 f22 h4 g3 f23)) [0, 1, 2, 3, 4] rfl
      have hD9 := hD.sub (ws' := (wd_90cd99f9 h0 v0 r0 v1 v2 v3 v4 r1 r2 r3 r4 r5 r6 r7 v5 v6 r8 r9 r10 r11 v7 h1 r12 v8 v9 h2 r13 v10 v11 r14 v12 v13 r15 v14 w15 r16 v16 v17 h3 h4 r17 r18 r19 r20 v18 r21 r22 r23 v19 h1 g0 f20 h2 g1 f21 h3 g2 f22 h4 g3 f23)) [0, 1, 2, 3, 4] (by decide) rfl
      have hK9 := hK.sub (tys' := []) [] rfl
      exact W.vret hx hb hr (fun t ht hW => ⟨⟨(), rfl, trivial, ⟨v16, v17, f22, f23, by rw [ht]; exact hP9, va_K.moved hW.alike hK9, hD9⟩⟩, hS.F ht⟩) hS.2.2 dX12_tryShelf_16
def q_X12_tryShelf_6 : List Cond := .code yX12_tryShelf cX12_tryShelf 7 none :: (([.fieldLink RX12 388 "LeftArgumentsModel" "bestRow" "I", .code yX12_isThere cX12_isThere 2 (some .boolean), .code yX12_in cX12_in 3 (some .boolean), .initialized RX12, .static yX12_in, .methodLink RX12 217 yX12_in, .code yX12_of cX12_of 3 (some .int), .fieldLink RX12 52 "LeftArgumentsModel" "now" "[I", .instanceMethod yX12_of, .selects RX12 yX12_of yX12_of, .methodLink RX12 287 yX12_of, .instanceMethod yX12_isThere, .selects RX12 yX12_isThere yX12_isThere, .methodLink RX12 290 yX12_isThere, .code yX12_isCalm cX12_isCalm 4 (some .boolean), .fieldLink RX12 74 "LeftArgumentsModel" "onShelf" "[I", .code yX12_setsOff cX12_setsOff 3 (some .boolean), .methodLink RX12 411 Lib.Math.abs.name, .static Lib.Math.abs.name, .initialized "java/lang/Math", .code Lib.Math.abs.name Lib.Math.abs.code 1 (some .int), .code yX12_stubbornOf cX12_stubbornOf 2 (some .int), .instanceMethod yX12_stubbornOf, .selects RX12 yX12_stubbornOf yX12_stubbornOf, .methodLink RX12 414 yX12_stubbornOf, .instanceMethod yX12_setsOff, .selects RX12 yX12_setsOff yX12_setsOff, .methodLink RX12 401 yX12_setsOff, .instanceMethod yX12_isCalm, .selects RX12 yX12_isCalm yX12_isCalm, .methodLink RX12 398 yX12_isCalm, .fieldLink RX12 77 "LeftArgumentsModel" "room" "[I", .code yX12_tryShelf cX12_tryShelf 7 none, .fieldLink RX12 391 "LeftArgumentsModel" "bestMany" "I", .instanceMethod yX12_tryShelf, .selects RX12 yX12_tryShelf yX12_tryShelf, .methodLink RX12 394 yX12_tryShelf, .fieldLink RX12 46 "LeftArgumentsModel" "rule" "[I"] : List Cond) ++ wsX120)
set_option maxRecDepth 20000 in
theorem g_X12_tryShelf_6_0 : GoodIn q_X12_tryShelf_6 (wsV RX12 290 RX12 yX12_isThere q_X12_isThere) := goodIn_app (goodIn_r _ [14, 12, 13, 4] rfl (by decide +kernel)) (goodIn_ca (goodIn_r (.code yX12_isThere cX12_isThere 2 (some .boolean) :: [.code yX12_in cX12_in 3 (some .boolean), .initialized RX12, .static yX12_in, .methodLink RX12 217 yX12_in, .code yX12_of cX12_of 3 (some .int), .fieldLink RX12 52 "LeftArgumentsModel" "now" "[I", .instanceMethod yX12_of, .selects RX12 yX12_of yX12_of, .methodLink RX12 287 yX12_of]) [2, 3, 4, 5, 6, 7, 8, 9, 10, 11] rfl (by decide +kernel)) (goodIn_sub (fun _ h => List.mem_cons_of_mem _ (List.mem_append_right _ h)) gwX12))
set_option maxRecDepth 20000 in
theorem g_X12_tryShelf_6_1 : GoodIn q_X12_tryShelf_6 (wsV RX12 398 RX12 yX12_isCalm q_X12_isCalm) := goodIn_app (goodIn_r _ [31, 29, 30, 4] rfl (by decide +kernel)) (goodIn_ca (goodIn_r (.code yX12_isCalm cX12_isCalm 4 (some .boolean) :: [.code yX12_isThere cX12_isThere 2 (some .boolean), .code yX12_in cX12_in 3 (some .boolean), .initialized RX12, .static yX12_in, .methodLink RX12 217 yX12_in, .code yX12_of cX12_of 3 (some .int), .fieldLink RX12 52 "LeftArgumentsModel" "now" "[I", .instanceMethod yX12_of, .selects RX12 yX12_of yX12_of, .methodLink RX12 287 yX12_of, .instanceMethod yX12_isThere, .selects RX12 yX12_isThere yX12_isThere, .methodLink RX12 290 yX12_isThere, .fieldLink RX12 74 "LeftArgumentsModel" "onShelf" "[I", .code yX12_setsOff cX12_setsOff 3 (some .boolean), .methodLink RX12 411 Lib.Math.abs.name, .static Lib.Math.abs.name, .initialized "java/lang/Math", .code Lib.Math.abs.name Lib.Math.abs.code 1 (some .int), .code yX12_stubbornOf cX12_stubbornOf 2 (some .int), .instanceMethod yX12_stubbornOf, .selects RX12 yX12_stubbornOf yX12_stubbornOf, .methodLink RX12 414 yX12_stubbornOf, .instanceMethod yX12_setsOff, .selects RX12 yX12_setsOff yX12_setsOff, .methodLink RX12 401 yX12_setsOff]) [15, 2, 3, 4, 5, 6, 7, 8, 9, 10, 11, 12, 13, 14, 16, 17, 18, 19, 20, 21, 22, 23, 24, 25, 26, 27, 28] rfl (by decide +kernel)) (goodIn_sub (fun _ h => List.mem_cons_of_mem _ (List.mem_append_right _ h)) gwX12))
set_option maxRecDepth 20000 in
theorem g_X12_tryShelf_6_2 : GoodIn q_X12_tryShelf_6 (wsV RX12 287 RX12 yX12_of q_X12_of_3) := goodIn_app (goodIn_r _ [11, 9, 10, 4] rfl (by decide +kernel)) (goodIn_ca (goodIn_r (.code yX12_of cX12_of 3 (some .int) :: [.fieldLink RX12 52 "LeftArgumentsModel" "now" "[I"]) [7, 8] rfl (by decide +kernel)) (goodIn_sub (fun _ h => List.mem_cons_of_mem _ (List.mem_append_right _ h)) gwX12))
set_option maxRecDepth 20000 in
theorem g_X12_tryShelf_6_4 : GoodIn q_X12_tryShelf_6 (wsV RX12 394 RX12 yX12_tryShelf q_X12_tryShelf_5) := goodIn_app (goodIn_r _ [37, 35, 36, 4] rfl (by decide +kernel)) (goodIn_ca (goodIn_r (.code yX12_tryShelf cX12_tryShelf 7 none :: [.fieldLink RX12 388 "LeftArgumentsModel" "bestRow" "I", .code yX12_isThere cX12_isThere 2 (some .boolean), .code yX12_in cX12_in 3 (some .boolean), .initialized RX12, .static yX12_in, .methodLink RX12 217 yX12_in, .code yX12_of cX12_of 3 (some .int), .fieldLink RX12 52 "LeftArgumentsModel" "now" "[I", .instanceMethod yX12_of, .selects RX12 yX12_of yX12_of, .methodLink RX12 287 yX12_of, .instanceMethod yX12_isThere, .selects RX12 yX12_isThere yX12_isThere, .methodLink RX12 290 yX12_isThere, .code yX12_isCalm cX12_isCalm 4 (some .boolean), .fieldLink RX12 74 "LeftArgumentsModel" "onShelf" "[I", .code yX12_setsOff cX12_setsOff 3 (some .boolean), .methodLink RX12 411 Lib.Math.abs.name, .static Lib.Math.abs.name, .initialized "java/lang/Math", .code Lib.Math.abs.name Lib.Math.abs.code 1 (some .int), .code yX12_stubbornOf cX12_stubbornOf 2 (some .int), .instanceMethod yX12_stubbornOf, .selects RX12 yX12_stubbornOf yX12_stubbornOf, .methodLink RX12 414 yX12_stubbornOf, .instanceMethod yX12_setsOff, .selects RX12 yX12_setsOff yX12_setsOff, .methodLink RX12 401 yX12_setsOff, .instanceMethod yX12_isCalm, .selects RX12 yX12_isCalm yX12_isCalm, .methodLink RX12 398 yX12_isCalm, .fieldLink RX12 77 "LeftArgumentsModel" "room" "[I", .code yX12_tryShelf cX12_tryShelf 7 none, .fieldLink RX12 391 "LeftArgumentsModel" "bestMany" "I", .instanceMethod yX12_tryShelf, .selects RX12 yX12_tryShelf yX12_tryShelf, .methodLink RX12 394 yX12_tryShelf, .fieldLink RX12 46 "LeftArgumentsModel" "rule" "[I"]) [33, 1, 2, 3, 4, 5, 6, 7, 8, 9, 10, 11, 12, 13, 14, 15, 16, 17, 18, 19, 20, 21, 22, 23, 24, 25, 26, 27, 28, 29, 30, 31, 32, 33, 34, 35, 36, 37, 38] rfl (by decide +kernel)) (goodIn_sub (fun _ h => List.mem_cons_of_mem _ (List.mem_append_right _ h)) gwX12))
set_option maxHeartbeats 4000000 in
set_option maxRecDepth 100000 in
theorem k_X12_tryShelf_6 (l : Launch) (dC : Nat → ClassId) (dI : Nat → Nat → Nat) (h0 : Nat) (h1 : Nat) (h2 : Nat) (h3 : Nat) (h4 : Nat) (v0 : Int32) (r0 : Nat) (v1 : Int32) (v2 : Int32) (v3 : Int32) (v4 : Int32) (r1 : Nat) (r2 : Nat) (r3 : Nat) (r4 : Nat) (r5 : Nat) (r6 : Nat) (r7 : Nat) (v5 : Int32) (v6 : Int32) (r8 : Nat) (r9 : Nat) (r10 : Nat) (r11 : Nat) (v7 : Int32) (r12 : Nat) (v8 : Int32) (v9 : Int32) (r13 : Nat) (v10 : Int32) (v11 : Int32) (r14 : Nat) (v12 : Int32) (v13 : Int32) (r15 : Nat) (v14 : Int32) (w15 : Int64) (r16 : Nat) (v16 : Int32) (v17 : Int32) (r17 : Nat) (r18 : Nat) (r19 : Nat) (r20 : Nat) (v18 : Int32) (r21 : Nat) (r22 : Nat) (r23 : Nat) (v19 : Int32) (g0 : ClassId) (f20 : Nat → Int32) (g1 : ClassId) (f21 : Nat → Int32) (g2 : ClassId) (f22 : Nat → Int32) (g3 : ClassId) (f23 : Nat → Int32) (v24 : Int32) (v25 : Int32) (v26 : Int32) (i_v1 : 0 ≤ v1.toInt ∧ v1.toInt ≤ 240) (i_v5 : 0 ≤ v5.toInt ∧ v5.toInt ≤ 4) (i_v6 : 0 ≤ v6.toInt ∧ v6.toInt ≤ 4) (i_v7 : 0 ≤ v7.toInt ∧ v7.toInt ≤ 8) (i_v8 : 0 ≤ v8.toInt ∧ v8.toInt ≤ 8) (i_v9 : 0 ≤ v9.toInt ∧ v9.toInt ≤ 1) (i_v10 : -1 ≤ v10.toInt ∧ v10.toInt ≤ 3) (i_v14 : 0 ≤ v14.toInt ∧ v14.toInt ≤ 40) (i_v18 : 0 ≤ v18.toInt ∧ v18.toInt ≤ 10) (i_v19 : 0 ≤ v19.toInt ∧ v19.toInt ≤ 1) (i_v26 : 0 ≤ v26.toInt ∧ v26.toInt ≤ 1) (ia_f20 : (pm_RU f20)) (ia_f21 : (pm_NW f21)) (sz : Nat) : Met l yX12_tryShelf q_X12_tryShelf_6 ({ frames := 9, cells := 0, slots := 0, locals := 218 }) (va_Pc [.ref h0, .int 2, .int v24, .int v25, .int v26] (fun U => U.heap.size = sz ∧ va_P (dC, dI) vwCl (wd_90cd99f9 h0 v0 r0 v1 v2 v3 v4 r1 r2 r3 r4 r5 r6 r7 v5 v6 r8 r9 r10 r11 v7 h1 r12 v8 v9 h2 r13 v10 v11 r14 v12 v13 r15 v14 w15 r16 v16 v17 h3 h4 r17 r18 r19 r20 v18 r21 r22 r23 v19 h1 g0 f20 h2 g1 f21 h3 g2 f22 h4 g3 f23) U.heap ∧ va_K (dC, dI) vwCl [(g0, .int), (g1, .int), (g2, .int), (g3, .int)] U ∧ va_D (fun _ => True) (wd_90cd99f9 h0 v0 r0 v1 v2 v3 v4 r1 r2 r3 r4 r5 r6 r7 v5 v6 r8 r9 r10 r11 v7 h1 r12 v8 v9 h2 r13 v10 v11 r14 v12 v13 r15 v14 w15 r16 v16 v17 h3 h4 r17 r18 r19 r20 v18 r21 r22 r23 v19 h1 g0 f20 h2 g1 f21 h3 g2 f22 h4 g3 f23))) (va_Qv (fun (_ : Unit) => True) (fun (_ : Unit) (t : State) => (∃ (o_h0_35 : Int32) (o_h0_36 : Int32) (o_h3 : Nat → Int32) (o_h4 : Nat → Int32), va_P (dC, dI) vwCl (wd_90cd99f9 h0 v0 r0 v1 v2 v3 v4 r1 r2 r3 r4 r5 r6 r7 v5 v6 r8 r9 r10 r11 v7 h1 r12 v8 v9 h2 r13 v10 v11 r14 v12 v13 r15 v14 w15 r16 o_h0_35 o_h0_36 h3 h4 r17 r18 r19 r20 v18 r21 r22 r23 v19 h1 g0 f20 h2 g1 f21 h3 g2 o_h3 h4 g3 o_h4) t.heap ∧ va_K (dC, dI) vwCl [] t ∧ va_D (va_A (wd_90cd99f9 h0 v0 r0 v1 v2 v3 v4 r1 r2 r3 r4 r5 r6 r7 v5 v6 r8 r9 r10 r11 v7 h1 r12 v8 v9 h2 r13 v10 v11 r14 v12 v13 r15 v14 w15 r16 v16 v17 h3 h4 r17 r18 r19 r20 v18 r21 r22 r23 v19 h1 g0 f20 h2 g1 f21 h3 g2 f22 h4 g3 f23) sz) (wd_90cd99f9 h0 v0 r0 v1 v2 v3 v4 r1 r2 r3 r4 r5 r6 r7 v5 v6 r8 r9 r10 r11 v7 h1 r12 v8 v9 h2 r13 v10 v11 r14 v12 v13 r15 v14 w15 r16 o_h0_35 o_h0_36 h3 h4 r17 r18 r19 r20 v18 r21 r22 r23 v19 h1 g0 f20 h2 g1 f21 h3 g2 o_h3 h4 g3 o_h4))) (va_A (wd_90cd99f9 h0 v0 r0 v1 v2 v3 v4 r1 r2 r3 r4 r5 r6 r7 v5 v6 r8 r9 r10 r11 v7 h1 r12 v8 v9 h2 r13 v10 v11 r14 v12 v13 r15 v14 w15 r16 v16 v17 h3 h4 r17 r18 r19 r20 v18 r21 r22 r23 v19 h1 g0 f20 h2 g1 f21 h3 g2 f22 h4 g3 f23) sz)) 0 0 (va_A (wd_90cd99f9 h0 v0 r0 v1 v2 v3 v4 r1 r2 r3 r4 r5 r6 r7 v5 v6 r8 r9 r10 r11 v7 h1 r12 v8 v9 h2 r13 v10 v11 r14 v12 v13 r15 v14 w15 r16 v16 v17 h3 h4 r17 r18 r19 r20 v18 r21 r22 r23 v19 h1 g0 f20 h2 g1 f21 h3 g2 f22 h4 g3 f23) sz) := by
  refine Met.ofW (cc := cX12_tryShelf) (maxL := 7) (ret := none) (by decide) rfl ?_
  intro p e s m args below meth c s₁ B hml hv
  obtain ⟨i_v1a, i_v1b⟩ := i_v1
  obtain ⟨i_v5a, i_v5b⟩ := i_v5
  obtain ⟨i_v6a, i_v6b⟩ := i_v6
  obtain ⟨i_v7a, i_v7b⟩ := i_v7
  obtain ⟨i_v8a, i_v8b⟩ := i_v8
  obtain ⟨i_v9a, i_v9b⟩ := i_v9
  obtain ⟨i_v10a, i_v10b⟩ := i_v10
  obtain ⟨i_v14a, i_v14b⟩ := i_v14
  obtain ⟨i_v18a, i_v18b⟩ := i_v18
  obtain ⟨i_v19a, i_v19b⟩ := i_v19
  obtain ⟨i_v26a, i_v26b⟩ := i_v26
  obtain ⟨rfl, hsz, hP, hK, hD0⟩ := hv
  have hx := B.exec
  have hb := B.bytes
  have hr := B.returns
  have hts := atoms_spec (ws := q_X12_tryShelf_6) B.pre
  have hown : s.vm.findClass RX12 = some m.cls := findClass_of_methodNamed B.named
  have hlocks := B.notSynchronized
  subst hsz
  have hD := hD0.self (sz := s.heap.size)
  generalize hAe : va_A (wd_90cd99f9 h0 v0 r0 v1 v2 v3 v4 r1 r2 r3 r4 r5 r6 r7 v5 v6 r8 r9 r10 r11 v7 h1 r12 v8 v9 h2 r13 v10 v11 r14 v12 v13 r15 v14 w15 r16 v16 v17 h3 h4 r17 r18 r19 r20 v18 r21 r22 r23 v19 h1 g0 f20 h2 g1 f21 h3 g2 f22 h4 g3 f23) s.heap.size = A at hD ⊢
  have hA : ∀ q : Nat, s.heap.size ≤ q → A q := fun q h => by rw [← hAe]; exact Or.inr h
  have hS : va_S A s.heap s.heap [] := va_S.rf
  generalize hQ : (MQ below _ _ s 0 0 A) = Q
  have hl := lv_entry ([.ref h0, .int 2, .int v24, .int v25, .int v26]) (n := 7) (Nat.le_of_ble_eq_true rfl)
  rw [lg_entry_eq]
  generalize (lg_sl ([.ref h0, .int 2, .int v24, .int v25, .int v26]) ++ List.replicate (7 - (lg_sl ([.ref h0, .int 2, .int v24, .int v25, .int v26])).length) Slot.unset).toArray = ls at hl ⊢
  have hl : lv_has ls 7 [(0, .ref h0), (1, .int 2), (2, .int v24), (3, .int v25), (4, .int v26)] := hl
  obtain ⟨H, hH⟩ : ∃ H : Heap, H = s.heap := ⟨_, rfl⟩
  obtain ⟨locs, hlocs⟩ : ∃ y : List Loc, y = [] := ⟨_, rfl⟩
  have hS : va_S A s.heap H locs := by rw [hH, hlocs]; exact va_S.rf
  have hP : va_P (dC, dI) vwCl (wd_90cd99f9 h0 v0 r0 v1 v2 v3 v4 r1 r2 r3 r4 r5 r6 r7 v5 v6 r8 r9 r10 r11 v7 h1 r12 v8 v9 h2 r13 v10 v11 r14 v12 v13 r15 v14 w15 r16 v16 v17 h3 h4 r17 r18 r19 r20 v18 r21 r22 r23 v19 h1 g0 f20 h2 g1 f21 h3 g2 f22 h4 g3 f23) H := by rw [hH]; exact hP
  rw [← hH, ← hlocs]
  refine lv_aload_n hx hb dX12_tryShelf_0 rfl (lv_at hl 0 rfl) ?_
  refine va_get (D := (dC, dI)) (ci := 12) (v := .int v16) (C := RX12) (T := TX12) (N := 48) hx hb hts (fun _ h => List.mem_cons_of_mem _ (List.mem_append_right _ h)) hown hK hP 0 rfl rfl 35 (by decide) (hts (.fieldLink RX12 388 "LeftArgumentsModel" "bestRow" "I") (List.mem_cons_of_mem _ (List.mem_append_left _ (List.mem_of_getElem? (i := 0) rfl)))) (fun _ h9 => h9) rfl dX12_tryShelf_1 ?_
  refine lv_iconst (v := (-1)) hx hb dX12_tryShelf_4 (by decide) ?_
  refine lv_icmp_eq (tgt := 17) hx hb dX12_tryShelf_5 (by decide) (fun c1 => ?_) (fun c1 => ?_)
  · skip
    have fc1 : v16.toInt = (-1) := congrArg Int32.toInt c1
    refine lv_iload_n hx hb dX12_tryShelf_17 rfl (lv_at hl 1 rfl) ?_
    refine lv_bipush (v := 8) hx hb dX12_tryShelf_18 (by decide) ?_
    refine lv_icmp_ne (tgt := 34) hx hb dX12_tryShelf_20 (by decide) (fun _ => ?_) (fun c => absurd c (by decide))
    refine lv_aload_n hx hb dX12_tryShelf_34 rfl (lv_at hl 0 rfl) ?_
    refine lv_iload_n hx hb dX12_tryShelf_35 rfl (lv_at hl 1 rfl) ?_
    have hPc := hP.sub (ws' := (wd_5013416a h0 v0 r0 v1 v2 v3 v4 r1 r2 r3 r4 r5 r6 r7 v5 v6 r8 r9 r10 r11 v7 h1 r12 v8 v9 h2 r13 v10 v11 r14 v12 v13 r15 v14 w15 r16 v16 v17 h3 h4 r17 r18 r19 r20 v18 r21 r22 r23 v19 h2 g1 f21)) [0, 2] rfl
    have hDc := hD.sub (ws' := (wd_5013416a h0 v0 r0 v1 v2 v3 v4 r1 r2 r3 r4 r5 r6 r7 v5 v6 r8 r9 r10 r11 v7 h1 r12 v8 v9 h2 r13 v10 v11 r14 v12 v13 r15 v14 w15 r16 v16 v17 h3 h4 r17 r18 r19 r20 v18 r21 r22 r23 v19 h2 g1 f21)) [0, 2] (by decide) rfl
    have hKc := hK.sub (tys' := [(g1, .int)]) [1] rfl
    have hFc := va_free (wc := (wd_5013416a h0 v0 r0 v1 v2 v3 v4 r1 r2 r3 r4 r5 r6 r7 v5 v6 r8 r9 r10 r11 v7 h1 r12 v8 v9 h2 r13 v10 v11 r14 v12 v13 r15 v14 w15 r16 v16 v17 h3 h4 r17 r18 r19 r20 v18 r21 r22 r23 v19 h2 g1 f21)) hD hS hA [0, 2] rfl
    refine va_calli (va_runV (As := [.int 2]) (rest := []) ⟨hx, hb, hml, hown, hts⟩ (k_X12_isThere l dC dI h0 h2 v0 r0 v1 v2 v3 v4 r1 r2 r3 r4 r5 r6 r7 v5 v6 r8 r9 r10 r11 v7 h1 r12 v8 v9 r13 v10 v11 r14 v12 v13 r15 v14 w15 r16 v16 v17 h3 h4 r17 r18 r19 r20 v18 r21 r22 r23 v19 g1 f21 2 ⟨i_v1a, i_v1b⟩ ⟨i_v5a, i_v5b⟩ ⟨i_v6a, i_v6b⟩ ⟨i_v7a, i_v7b⟩ ⟨i_v8a, i_v8b⟩ ⟨i_v9a, i_v9b⟩ ⟨i_v10a, i_v10b⟩ ⟨i_v14a, i_v14b⟩ ⟨i_v18a, i_v18b⟩ ⟨i_v19a, i_v19b⟩ ia_f21.1 H.size) (cwV 1 hts g_X12_tryShelf_6_0 rfl rfl rfl (by decide +kernel) ⟨Nat.le_of_ble_eq_true rfl, Nat.le_of_ble_eq_true rfl⟩) (pv_PV12 hPc hKc hDc (q0 := 0) rfl) rfl rfl hl.1 rfl (lv_room (Nat.le_of_ble_eq_true rfl)) dX12_tryShelf_36 ⟨Nat.le_of_ble_eq_true rfl, Nat.le_of_ble_eq_true rfl⟩) hS (fun q _ h => hFc q h) hFc (fun ra2 u t H1 locs ht hvm hwra2 hB hz1 hk1 hS => ?_)
    try rw [hwra2] at hB
    have hkra2_0 : ((2 : Int32)).toInt = 2 := by decide
    obtain ⟨pt0_ra2, pt1_ra2, pt2_ra2, pt3_ra2, pt4_ra2, pt5_ra2, hP1, hK1, hD1⟩ := hB
    rw [ht] at hP1
    obtain ⟨hP2, hD2⟩ := va_join (wr := (wd_20b67a68 h1 g0 f20 h3 g2 f22 h4 g3 f23)) (w1 := (wd_5013416a h0 v0 r0 v1 v2 v3 v4 r1 r2 r3 r4 r5 r6 r7 v5 v6 r8 r9 r10 r11 v7 h1 r12 v8 v9 h2 r13 v10 v11 r14 v12 v13 r15 v14 w15 r16 v16 v17 h3 h4 r17 r18 r19 r20 v18 r21 r22 r23 v19 h2 g1 f21)) hP hD [0, 2] [1, 3, 4] rfl rfl (by decide) (by decide) hk1 hFc hP1 hD1
    clear hP hD hPc hDc hKc hFc hP1 hK1 hD1 hk1 hz1
    generalize H1 = H at hP2 hS ⊢
    have hP := hP2.sub (ws' := (wd_90cd99f9 h0 v0 r0 v1 v2 v3 v4 r1 r2 r3 r4 r5 r6 r7 v5 v6 r8 r9 r10 r11 v7 h1 r12 v8 v9 h2 r13 v10 v11 r14 v12 v13 r15 v14 w15 r16 v16 v17 h3 h4 r17 r18 r19 r20 v18 r21 r22 r23 v19 h1 g0 f20 h2 g1 f21 h3 g2 f22 h4 g3 f23)) [3, 0, 4, 1, 2] rfl
    have hD := hD2.sub (ws' := (wd_90cd99f9 h0 v0 r0 v1 v2 v3 v4 r1 r2 r3 r4 r5 r6 r7 v5 v6 r8 r9 r10 r11 v7 h1 r12 v8 v9 h2 r13 v10 v11 r14 v12 v13 r15 v14 w15 r16 v16 v17 h3 h4 r17 r18 r19 r20 v18 r21 r22 r23 v19 h1 g0 f20 h2 g1 f21 h3 g2 f22 h4 g3 f23)) [3, 0, 4, 1, 2] (by decide) rfl
    clear hP2 hD2
    have wra2 : ra2.toInt = 0 → ¬ f21 (pm_I 2 7) = 1 := fun h9 => pt5_ra2 h9 (by omega) (by omega)
    refine lv_if_ne (tgt := 54) hx hb dX12_tryShelf_39 (by decide) (fun c3 => ?_) (fun c3 => ?_)
    · skip
      have fc3 : ¬ (ra2.toInt = 0) := fun h9 => c3 (Int32.toInt_inj.mp h9)
      have q1pt4_ra2 := pt4_ra2 (by omega)
      refine lv_iload hx hb dX12_tryShelf_54 (lv_at hl 4 rfl) ?_
      have hJ5 : ∀ (x4 : Int32) (H : Heap) (locs : List Loc) (ls : Array Slot), 0 ≤ x4.toInt → x4.toInt ≤ 8 → va_P (dC, dI) vwCl (wd_90cd99f9 h0 v0 r0 v1 v2 v3 v4 r1 r2 r3 r4 r5 r6 r7 v5 v6 r8 r9 r10 r11 v7 h1 r12 v8 v9 h2 r13 v10 v11 r14 v12 v13 r15 v14 w15 r16 v16 v17 h3 h4 r17 r18 r19 r20 v18 r21 r22 r23 v19 h1 g0 f20 h2 g1 f21 h3 g2 f22 h4 g3 f23) H → va_D A (wd_90cd99f9 h0 v0 r0 v1 v2 v3 v4 r1 r2 r3 r4 r5 r6 r7 v5 v6 r8 r9 r10 r11 v7 h1 r12 v8 v9 h2 r13 v10 v11 r14 v12 v13 r15 v14 w15 r16 v16 v17 h3 h4 r17 r18 r19 r20 v18 r21 r22 r23 v19 h1 g0 f20 h2 g1 f21 h3 g2 f22 h4 g3 f23) → va_S A s.heap H locs → lv_has ls 7 [(0, .ref h0), (1, .int 2), (2, .int v24), (3, .int v25), (4, .int v26)] → W p l e ({ frames := 9, cells := 0, slots := 0, locals := 218 }) s m ([.ref h0, .int 2, .int v24, .int v25, .int v26] : List Value).toArray below meth c H locs 0 0 Q (F0 m 70 ls [.int x4]) := by
        intro x4 H locs ls qa_x4 qb_x4 hP hD hS hl
        refine lv_istore (lv' := [(5, .int x4), (0, .ref h0), (1, .int 2), (2, .int v24), (3, .int v25), (4, .int v26)]) hx hb dX12_tryShelf_70 hl (by decide) rfl (fun ls hl => ?_)
        refine lv_iconst (v := 0) hx hb dX12_tryShelf_72 (by decide) ?_
        refine lv_istore (lv' := [(6, .int 0), (5, .int x4), (0, .ref h0), (1, .int 2), (2, .int v24), (3, .int v25), (4, .int v26)]) hx hb dX12_tryShelf_73 hl (by decide) rfl (fun ls hl => ?_)
        have hL31 : ∀ (n9 : Nat), ∀ (x21 : Int32) (x22 : Int32) (x23 : Int32) (fn24 : Nat → Int32) (fn25 : Nat → Int32) (H : Heap) (locs : List Loc) (ls : Array Slot), 0 ≤ x21.toInt → x21.toInt ≤ 8 → (8 - x21.toInt).toNat < n9 → va_P (dC, dI) vwCl (wd_90cd99f9 h0 v0 r0 v1 v2 v3 v4 r1 r2 r3 r4 r5 r6 r7 v5 v6 r8 r9 r10 r11 v7 h1 r12 v8 v9 h2 r13 v10 v11 r14 v12 v13 r15 v14 w15 r16 x22 x23 h3 h4 r17 r18 r19 r20 v18 r21 r22 r23 v19 h1 g0 f20 h2 g1 f21 h3 g2 fn24 h4 g3 fn25) H → va_D A (wd_90cd99f9 h0 v0 r0 v1 v2 v3 v4 r1 r2 r3 r4 r5 r6 r7 v5 v6 r8 r9 r10 r11 v7 h1 r12 v8 v9 h2 r13 v10 v11 r14 v12 v13 r15 v14 w15 r16 x22 x23 h3 h4 r17 r18 r19 r20 v18 r21 r22 r23 v19 h1 g0 f20 h2 g1 f21 h3 g2 fn24 h4 g3 fn25) → va_S A s.heap H locs → lv_has ls 7 [(6, .int x21), (5, .int x4), (0, .ref h0), (1, .int 2), (2, .int v24), (3, .int v25), (4, .int v26)] → W p l e ({ frames := 9, cells := 0, slots := 0, locals := 218 }) s m ([.ref h0, .int 2, .int v24, .int v25, .int v26] : List Value).toArray below meth c H locs 0 0 Q (F0 m 75 ls []) := by
          intro n9
          induction n9 with
          | zero => intro x21 x22 x23 fn24 fn25 H locs ls qa_x21 qb_x21 hm9 hP hD hS hl; exact absurd hm9 (Nat.not_lt_zero _)
          | succ n9 ih_hL31 =>
            intro x21 x22 x23 fn24 fn25 H locs ls qa_x21 qb_x21 hm9 hP hD hS hl
            refine lv_iload hx hb dX12_tryShelf_75 (lv_at hl 0 rfl) ?_
            refine lv_iload hx hb dX12_tryShelf_77 (lv_at hl 1 rfl) ?_
            refine lv_icmp_ge (tgt := 208) hx hb dX12_tryShelf_79 (by decide) (fun c32 => ?_) (fun c32 => ?_)
            · skip
              have fc32 : x4.toInt ≤ x21.toInt := Int32.le_iff_toInt_le.mp c32
              have r1c32 := Int32.toInt_lt x21
              have r2c32 := Int32.toInt_lt x4
              have r3c32 := Int32.le_toInt x21
              have r4c32 := Int32.le_toInt x4
              subst hQ
              have hP9 := hP.sub (ws' := (wd_90cd99f9 h0 v0 r0 v1 v2 v3 v4 r1 r2 r3 r4 r5 r6 r7 v5 v6 r8 r9 r10 r11 v7 h1 r12 v8 v9 h2 r13 v10 v11 r14 v12 v13 r15 v14 w15 r16 x22 x23 h3 h4 r17 r18 r19 r20 v18 r21 r22 r23 v19 h1 g0 f20 h2 g1 f21 h3 g2 fn24 h4 g3 fn25)) [0, 1, 2, 3, 4] rfl
              have hD9 := hD.sub (ws' := (wd_90cd99f9 h0 v0 r0 v1 v2 v3 v4 r1 r2 r3 r4 r5 r6 r7 v5 v6 r8 r9 r10 r11 v7 h1 r12 v8 v9 h2 r13 v10 v11 r14 v12 v13 r15 v14 w15 r16 x22 x23 h3 h4 r17 r18 r19 r20 v18 r21 r22 r23 v19 h1 g0 f20 h2 g1 f21 h3 g2 fn24 h4 g3 fn25)) [0, 1, 2, 3, 4] (by decide) rfl
              have hK9 := hK.sub (tys' := []) [] rfl
              exact W.vret hx hb hr (fun t ht hW => ⟨⟨(), rfl, trivial, ⟨x22, x23, fn24, fn25, by rw [ht]; exact hP9, va_K.moved hW.alike hK9, hD9⟩⟩, hS.F ht⟩) hS.2.2 dX12_tryShelf_208
            · skip
              have fc32 : ¬ (x4.toInt ≤ x21.toInt) := fun h9 => c32 (Int32.le_iff_toInt_le.mpr h9)
              have r1c32 := Int32.toInt_lt x21
              have r2c32 := Int32.toInt_lt x4
              have r3c32 := Int32.le_toInt x21
              have r4c32 := Int32.le_toInt x4
              refine lv_iload hx hb dX12_tryShelf_82 (lv_at hl 6 rfl) ?_
              have hJ37 : ∀ (x33 : Int32) (x34 : Int32) (fn35 : Nat → Int32) (fn36 : Nat → Int32) (H : Heap) (locs : List Loc) (ls : Array Slot), va_P (dC, dI) vwCl (wd_90cd99f9 h0 v0 r0 v1 v2 v3 v4 r1 r2 r3 r4 r5 r6 r7 v5 v6 r8 r9 r10 r11 v7 h1 r12 v8 v9 h2 r13 v10 v11 r14 v12 v13 r15 v14 w15 r16 x33 x34 h3 h4 r17 r18 r19 r20 v18 r21 r22 r23 v19 h1 g0 f20 h2 g1 f21 h3 g2 fn35 h4 g3 fn36) H → va_D A (wd_90cd99f9 h0 v0 r0 v1 v2 v3 v4 r1 r2 r3 r4 r5 r6 r7 v5 v6 r8 r9 r10 r11 v7 h1 r12 v8 v9 h2 r13 v10 v11 r14 v12 v13 r15 v14 w15 r16 x33 x34 h3 h4 r17 r18 r19 r20 v18 r21 r22 r23 v19 h1 g0 f20 h2 g1 f21 h3 g2 fn35 h4 g3 fn36) → va_S A s.heap H locs → lv_has ls 7 [(6, .int x21), (5, .int x4), (0, .ref h0), (1, .int 2), (2, .int v24), (3, .int v25), (4, .int v26)] → W p l e ({ frames := 9, cells := 0, slots := 0, locals := 218 }) s m ([.ref h0, .int 2, .int v24, .int v25, .int v26] : List Value).toArray below meth c H locs 0 0 Q (F0 m 202 ls []) := by
                intro x33 x34 fn35 fn36 H locs ls hP hD hS hl
                obtain ⟨t38, et38⟩ : ∃ y : Int32, y = x21 + 1 := ⟨_, rfl⟩
                have gt38 : t38.toInt = x21.toInt + (1) := pv_add (a := x21.toInt) (b := (1)) et38 rfl (by decide) (by omega) (by omega)
                refine lv_iinc (v := t38) (lv' := [(6, .int t38), (5, .int x4), (0, .ref h0), (1, .int 2), (2, .int v24), (3, .int v25), (4, .int v26)]) hx hb dX12_tryShelf_202 hl (k := 0) rfl (by rw [et38]; rfl) (by decide) rfl (fun ls hl => ?_)
                refine lv_goto (tgt := 75) hx hb dX12_tryShelf_205 (by decide) ?_
                exact ih_hL31 t38 x33 x34 fn35 fn36 H locs ls (by first | omega | decide) (by first | omega | decide) (by first | omega | (simp only [Int.toNat] at *; omega)) hP hD hS (lv_sub hl [0, 1, 2, 3, 4, 5, 6] rfl)
              refine lv_if_eq (tgt := 113) hx hb dX12_tryShelf_84 (by decide) (fun c39 => ?_) (fun c39 => ?_)
              · skip
                have fc39 : v26.toInt = 0 := congrArg Int32.toInt c39
                refine lv_aload_n hx hb dX12_tryShelf_113 rfl (lv_at hl 2 rfl) ?_
                refine lv_iload_n hx hb dX12_tryShelf_114 rfl (lv_at hl 3 rfl) ?_
                refine lv_iload hx hb dX12_tryShelf_115 (lv_at hl 0 rfl) ?_
                have hPc := hP.sub (ws' := (wd_f4deda84 h0 v0 r0 v1 v2 v3 v4 r1 r2 r3 r4 r5 r6 r7 v5 v6 r8 r9 r10 r11 v7 h1 r12 v8 v9 h2 r13 v10 v11 r14 v12 v13 r15 v14 w15 r16 x22 x23 h3 h4 r17 r18 r19 r20 v18 r21 r22 r23 v19 h2 g1 f21 h3 g2 fn24)) [0, 2, 3] rfl
                have hDc := hD.sub (ws' := (wd_f4deda84 h0 v0 r0 v1 v2 v3 v4 r1 r2 r3 r4 r5 r6 r7 v5 v6 r8 r9 r10 r11 v7 h1 r12 v8 v9 h2 r13 v10 v11 r14 v12 v13 r15 v14 w15 r16 x22 x23 h3 h4 r17 r18 r19 r20 v18 r21 r22 r23 v19 h2 g1 f21 h3 g2 fn24)) [0, 2, 3] (by decide) rfl
                have hKc := hK.sub (tys' := [(g1, .int), (g2, .int)]) [1, 2] rfl
                have hFc := va_free (wc := (wd_f4deda84 h0 v0 r0 v1 v2 v3 v4 r1 r2 r3 r4 r5 r6 r7 v5 v6 r8 r9 r10 r11 v7 h1 r12 v8 v9 h2 r13 v10 v11 r14 v12 v13 r15 v14 w15 r16 x22 x23 h3 h4 r17 r18 r19 r20 v18 r21 r22 r23 v19 h2 g1 f21 h3 g2 fn24)) hD hS hA [0, 2, 3] rfl
                refine va_calli (va_runV (As := [.int 2, .int x21]) (rest := []) ⟨hx, hb, hml, hown, hts⟩ (k_X12_isCalm l dC dI h0 h2 h3 v0 r0 v1 v2 v3 v4 r1 r2 r3 r4 r5 r6 r7 v5 v6 r8 r9 r10 r11 v7 h1 r12 v8 v9 r13 v10 v11 r14 v12 v13 r15 v14 w15 r16 x22 x23 h4 r17 r18 r19 r20 v18 r21 r22 r23 v19 g1 f21 g2 fn24 2 x21 ⟨i_v1a, i_v1b⟩ ⟨i_v5a, i_v5b⟩ ⟨i_v6a, i_v6b⟩ ⟨i_v7a, i_v7b⟩ ⟨i_v8a, i_v8b⟩ ⟨i_v9a, i_v9b⟩ ⟨i_v10a, i_v10b⟩ ⟨i_v14a, i_v14b⟩ ⟨i_v18a, i_v18b⟩ ⟨i_v19a, i_v19b⟩ ⟨by decide, by decide⟩ ia_f21 H.size) (cwV 2 hts g_X12_tryShelf_6_1 rfl rfl rfl (by decide +kernel) ⟨Nat.le_of_ble_eq_true rfl, Nat.le_of_ble_eq_true rfl⟩) (pv_PV12 hPc hKc hDc (q0 := 0) rfl) rfl rfl hl.1 rfl (lv_room (Nat.le_of_ble_eq_true rfl)) dX12_tryShelf_117 ⟨Nat.le_of_ble_eq_true rfl, Nat.le_of_ble_eq_true rfl⟩) hS (fun q _ h => hFc q h) hFc (fun ra40 u t H1 locs ht hvm hwra40 hB hz1 hk1 hS => ?_)
                try rw [hwra40] at hB
                have hkra40_0 : ((2 : Int32)).toInt = 2 := by decide
                obtain ⟨pt0_ra40, pt1_ra40, hP1, hK1, hD1⟩ := hB
                rw [ht] at hP1
                obtain ⟨hP2, hD2⟩ := va_join (wr := (wd_5481fbec h1 g0 f20 h4 g3 fn25)) (w1 := (wd_f4deda84 h0 v0 r0 v1 v2 v3 v4 r1 r2 r3 r4 r5 r6 r7 v5 v6 r8 r9 r10 r11 v7 h1 r12 v8 v9 h2 r13 v10 v11 r14 v12 v13 r15 v14 w15 r16 x22 x23 h3 h4 r17 r18 r19 r20 v18 r21 r22 r23 v19 h2 g1 f21 h3 g2 fn24)) hP hD [0, 2, 3] [1, 4] rfl rfl (by decide) (by decide) hk1 hFc hP1 hD1
                clear hP hD hPc hDc hKc hFc hP1 hK1 hD1 hk1 hz1
                generalize H1 = H at hP2 hS ⊢
                have hP := hP2.sub (ws' := (wd_90cd99f9 h0 v0 r0 v1 v2 v3 v4 r1 r2 r3 r4 r5 r6 r7 v5 v6 r8 r9 r10 r11 v7 h1 r12 v8 v9 h2 r13 v10 v11 r14 v12 v13 r15 v14 w15 r16 x22 x23 h3 h4 r17 r18 r19 r20 v18 r21 r22 r23 v19 h1 g0 f20 h2 g1 f21 h3 g2 fn24 h4 g3 fn25)) [2, 0, 3, 4, 1] rfl
                have hD := hD2.sub (ws' := (wd_90cd99f9 h0 v0 r0 v1 v2 v3 v4 r1 r2 r3 r4 r5 r6 r7 v5 v6 r8 r9 r10 r11 v7 h1 r12 v8 v9 h2 r13 v10 v11 r14 v12 v13 r15 v14 w15 r16 x22 x23 h3 h4 r17 r18 r19 r20 v18 r21 r22 r23 v19 h1 g0 f20 h2 g1 f21 h3 g2 fn24 h4 g3 fn25)) [2, 0, 3, 4, 1] (by decide) rfl
                clear hP2 hD2
                refine lv_if_eq (tgt := 202) hx hb dX12_tryShelf_120 (by decide) (fun c41 => ?_) (fun c41 => ?_)
                · skip
                  have fc41 : ra40.toInt = 0 := congrArg Int32.toInt c41
                  exact hJ37 x22 x23 fn24 fn25 H locs ls hP hD hS (lv_sub hl [0, 1, 2, 3, 4, 5, 6] rfl)
                · skip
                  have fc41 : ¬ (ra40.toInt = 0) := fun h9 => c41 (Int32.toInt_inj.mp h9)
                  refine lv_aload_n hx hb dX12_tryShelf_123 rfl (lv_at hl 2 rfl) ?_
                  refine va_get (D := (dC, dI)) (ci := 12) (v := .ref h4) (C := RX12) (T := TX12) (N := 48) hx hb hts (fun _ h => List.mem_cons_of_mem _ (List.mem_append_right _ h)) hown hK hP 0 rfl rfl 38 (by decide) (hts (.fieldLink RX12 77 "LeftArgumentsModel" "room" "[I") (List.mem_cons_of_mem _ (List.mem_append_left _ (List.mem_of_getElem? (i := 31) rfl)))) (fun _ h9 => h9) rfl dX12_tryShelf_124 ?_
                  refine lv_iload hx hb dX12_tryShelf_127 (lv_at hl 0 rfl) ?_
                  refine lv_dup2_11 hx hb dX12_tryShelf_129 rfl rfl ?_
                  refine va_iald hx hb hK hP 4 3 rfl rfl (vp_in_iff.mpr ⟨by omega, by omega⟩) dX12_tryShelf_130 ?_
                  refine lv_topi (fun t42 et42 => ?_)
                  refine lv_aload_n hx hb dX12_tryShelf_131 rfl (lv_at hl 2 rfl) ?_
                  refine lv_iload_n hx hb dX12_tryShelf_132 rfl (lv_at hl 3 rfl) ?_
                  refine lv_iconst (v := 0) hx hb dX12_tryShelf_133 (by decide) ?_
                  have hPc := hP.sub (ws' := (wd_5013416a h0 v0 r0 v1 v2 v3 v4 r1 r2 r3 r4 r5 r6 r7 v5 v6 r8 r9 r10 r11 v7 h1 r12 v8 v9 h2 r13 v10 v11 r14 v12 v13 r15 v14 w15 r16 x22 x23 h3 h4 r17 r18 r19 r20 v18 r21 r22 r23 v19 h2 g1 f21)) [0, 2] rfl
                  have hDc := hD.sub (ws' := (wd_5013416a h0 v0 r0 v1 v2 v3 v4 r1 r2 r3 r4 r5 r6 r7 v5 v6 r8 r9 r10 r11 v7 h1 r12 v8 v9 h2 r13 v10 v11 r14 v12 v13 r15 v14 w15 r16 x22 x23 h3 h4 r17 r18 r19 r20 v18 r21 r22 r23 v19 h2 g1 f21)) [0, 2] (by decide) rfl
                  have hKc := hK.sub (tys' := [(g1, .int)]) [1] rfl
                  have hFc := va_free (wc := (wd_5013416a h0 v0 r0 v1 v2 v3 v4 r1 r2 r3 r4 r5 r6 r7 v5 v6 r8 r9 r10 r11 v7 h1 r12 v8 v9 h2 r13 v10 v11 r14 v12 v13 r15 v14 w15 r16 x22 x23 h3 h4 r17 r18 r19 r20 v18 r21 r22 r23 v19 h2 g1 f21)) hD hS hA [0, 2] rfl
                  refine va_calli (va_runV (As := [.int 2, .int 0]) (rest := [.int t42, .int x21, .ref h4]) ⟨hx, hb, hml, hown, hts⟩ (k_X12_of_3 l dC dI h0 h2 v0 r0 v1 v2 v3 v4 r1 r2 r3 r4 r5 r6 r7 v5 v6 r8 r9 r10 r11 v7 h1 r12 v8 v9 r13 v10 v11 r14 v12 v13 r15 v14 w15 r16 x22 x23 h3 h4 r17 r18 r19 r20 v18 r21 r22 r23 v19 g1 f21 2 ⟨i_v1a, i_v1b⟩ ⟨i_v5a, i_v5b⟩ ⟨i_v6a, i_v6b⟩ ⟨i_v7a, i_v7b⟩ ⟨i_v8a, i_v8b⟩ ⟨i_v9a, i_v9b⟩ ⟨i_v10a, i_v10b⟩ ⟨i_v14a, i_v14b⟩ ⟨i_v18a, i_v18b⟩ ⟨i_v19a, i_v19b⟩ ⟨by decide, by decide⟩ ia_f21.1 H.size) (cwV 2 hts g_X12_tryShelf_6_2 rfl rfl rfl (by decide +kernel) ⟨Nat.le_of_ble_eq_true rfl, Nat.le_of_ble_eq_true rfl⟩) (pv_PV12 hPc hKc hDc (q0 := 0) rfl) rfl rfl hl.1 rfl (lv_room (Nat.le_of_ble_eq_true rfl)) dX12_tryShelf_134 ⟨Nat.le_of_ble_eq_true rfl, Nat.le_of_ble_eq_true rfl⟩) hS (fun q _ h => hFc q h) hFc (fun ra43 u t H1 locs ht hvm hwra43 hB hz1 hk1 hS => ?_)
                  try rw [hwra43] at hB
                  have hkra43_0 : ((2 : Int32)).toInt = 2 := by decide
                  obtain ⟨pt0_ra43, pt1_ra43, pt2_ra43, hP1, hK1, hD1⟩ := hB
                  rw [ht] at hP1
                  obtain ⟨hP2, hD2⟩ := va_join (wr := (wd_20b67a68 h1 g0 f20 h3 g2 fn24 h4 g3 fn25)) (w1 := (wd_5013416a h0 v0 r0 v1 v2 v3 v4 r1 r2 r3 r4 r5 r6 r7 v5 v6 r8 r9 r10 r11 v7 h1 r12 v8 v9 h2 r13 v10 v11 r14 v12 v13 r15 v14 w15 r16 x22 x23 h3 h4 r17 r18 r19 r20 v18 r21 r22 r23 v19 h2 g1 f21)) hP hD [0, 2] [1, 3, 4] rfl rfl (by decide) (by decide) hk1 hFc hP1 hD1
                  clear hP hD hPc hDc hKc hFc hP1 hK1 hD1 hk1 hz1
                  generalize H1 = H at hP2 hS ⊢
                  have hP := hP2.sub (ws' := (wd_90cd99f9 h0 v0 r0 v1 v2 v3 v4 r1 r2 r3 r4 r5 r6 r7 v5 v6 r8 r9 r10 r11 v7 h1 r12 v8 v9 h2 r13 v10 v11 r14 v12 v13 r15 v14 w15 r16 x22 x23 h3 h4 r17 r18 r19 r20 v18 r21 r22 r23 v19 h1 g0 f20 h2 g1 f21 h3 g2 fn24 h4 g3 fn25)) [3, 0, 4, 1, 2] rfl
                  have hD := hD2.sub (ws' := (wd_90cd99f9 h0 v0 r0 v1 v2 v3 v4 r1 r2 r3 r4 r5 r6 r7 v5 v6 r8 r9 r10 r11 v7 h1 r12 v8 v9 h2 r13 v10 v11 r14 v12 v13 r15 v14 w15 r16 x22 x23 h3 h4 r17 r18 r19 r20 v18 r21 r22 r23 v19 h1 g0 f20 h2 g1 f21 h3 g2 fn24 h4 g3 fn25)) [3, 0, 4, 1, 2] (by decide) rfl
                  clear hP2 hD2
                  refine lv_iadd hx hb dX12_tryShelf_137 ?_
                  refine lv_topi (fun t44 et44 => ?_)
                  refine va_iast hx hb hK hP hD hS 4 3 rfl rfl (vp_in_iff.mpr ⟨by omega, by omega⟩) dX12_tryShelf_138 (fun H locs hP hD hS => ?_)
                  obtain ⟨fn45, efn45⟩ : ∃ g : Nat → Int32, g = upd fn25 (Int32.toNatClampNeg x21) t44 := ⟨_, rfl⟩
                  rw [← efn45] at hP hD
                  have hP : va_P (dC, dI) vwCl (wd_90cd99f9 h0 v0 r0 v1 v2 v3 v4 r1 r2 r3 r4 r5 r6 r7 v5 v6 r8 r9 r10 r11 v7 h1 r12 v8 v9 h2 r13 v10 v11 r14 v12 v13 r15 v14 w15 r16 x22 x23 h3 h4 r17 r18 r19 r20 v18 r21 r22 r23 v19 h1 g0 f20 h2 g1 f21 h3 g2 fn24 h4 g3 fn45) H := hP
                  have hD : va_D A (wd_90cd99f9 h0 v0 r0 v1 v2 v3 v4 r1 r2 r3 r4 r5 r6 r7 v5 v6 r8 r9 r10 r11 v7 h1 r12 v8 v9 h2 r13 v10 v11 r14 v12 v13 r15 v14 w15 r16 x22 x23 h3 h4 r17 r18 r19 r20 v18 r21 r22 r23 v19 h1 g0 f20 h2 g1 f21 h3 g2 fn24 h4 g3 fn45) := hD
                  refine lv_aload_n hx hb dX12_tryShelf_139 rfl (lv_at hl 2 rfl) ?_
                  refine va_get (D := (dC, dI)) (ci := 12) (v := .ref h3) (C := RX12) (T := TX12) (N := 48) hx hb hts (fun _ h => List.mem_cons_of_mem _ (List.mem_append_right _ h)) hown hK hP 0 rfl rfl 37 (by decide) (hts (.fieldLink RX12 74 "LeftArgumentsModel" "onShelf" "[I") (List.mem_cons_of_mem _ (List.mem_append_left _ (List.mem_of_getElem? (i := 15) rfl)))) (fun _ h9 => h9) rfl dX12_tryShelf_140 ?_
                  refine lv_iload_n hx hb dX12_tryShelf_143 rfl (lv_at hl 3 rfl) ?_
                  refine lv_iload hx hb dX12_tryShelf_144 (lv_at hl 0 rfl) ?_
                  refine va_iast hx hb hK hP hD hS 3 2 rfl rfl (pv_c (x := 2) (n := 8) (by decide)) dX12_tryShelf_146 (fun H locs hP hD hS => ?_)
                  obtain ⟨fn46, efn46⟩ : ∃ g : Nat → Int32, g = upd fn24 (Int32.toNatClampNeg 2) x21 := ⟨_, rfl⟩
                  rw [← efn46] at hP hD
                  have hP : va_P (dC, dI) vwCl (wd_90cd99f9 h0 v0 r0 v1 v2 v3 v4 r1 r2 r3 r4 r5 r6 r7 v5 v6 r8 r9 r10 r11 v7 h1 r12 v8 v9 h2 r13 v10 v11 r14 v12 v13 r15 v14 w15 r16 x22 x23 h3 h4 r17 r18 r19 r20 v18 r21 r22 r23 v19 h1 g0 f20 h2 g1 f21 h3 g2 fn46 h4 g3 fn45) H := hP
                  have hD : va_D A (wd_90cd99f9 h0 v0 r0 v1 v2 v3 v4 r1 r2 r3 r4 r5 r6 r7 v5 v6 r8 r9 r10 r11 v7 h1 r12 v8 v9 h2 r13 v10 v11 r14 v12 v13 r15 v14 w15 r16 x22 x23 h3 h4 r17 r18 r19 r20 v18 r21 r22 r23 v19 h1 g0 f20 h2 g1 f21 h3 g2 fn46 h4 g3 fn45) := hD
                  refine lv_aload_n hx hb dX12_tryShelf_147 rfl (lv_at hl 2 rfl) ?_
                  refine lv_iload_n hx hb dX12_tryShelf_148 rfl (lv_at hl 3 rfl) ?_
                  refine lv_iconst (v := 1) hx hb dX12_tryShelf_149 (by decide) ?_
                  refine lv_iadd hx hb dX12_tryShelf_150 ?_
                  refine lv_topi (fun tv47 etv47 => ?_)
                  obtain rfl : tv47 = (3 : Int32) := etv47.trans (by first | rfl | decide)
                  refine lv_bipush (v := 10) hx hb dX12_tryShelf_151 (by decide) ?_
                  refine lv_iload_n hx hb dX12_tryShelf_153 rfl (lv_at hl 4 rfl) ?_
                  refine lv_imul hx hb dX12_tryShelf_154 ?_
                  refine lv_topi (fun t48 et48 => ?_)
                  refine lv_iload hx hb dX12_tryShelf_155 (lv_at hl 0 rfl) ?_
                  refine lv_iadd hx hb dX12_tryShelf_157 ?_
                  refine lv_topi (fun t49 et49 => ?_)
                  refine lv_iload_n hx hb dX12_tryShelf_158 rfl (lv_at hl 5 rfl) ?_
                  refine lv_aload_n hx hb dX12_tryShelf_159 rfl (lv_at hl 2 rfl) ?_
                  refine va_get (D := (dC, dI)) (ci := 12) (v := .ref h4) (C := RX12) (T := TX12) (N := 48) hx hb hts (fun _ h => List.mem_cons_of_mem _ (List.mem_append_right _ h)) hown hK hP 0 rfl rfl 38 (by decide) (hts (.fieldLink RX12 77 "LeftArgumentsModel" "room" "[I") (List.mem_cons_of_mem _ (List.mem_append_left _ (List.mem_of_getElem? (i := 31) rfl)))) (fun _ h9 => h9) rfl dX12_tryShelf_160 ?_
                  refine lv_iload hx hb dX12_tryShelf_163 (lv_at hl 0 rfl) ?_
                  refine va_iald hx hb hK hP 4 3 rfl rfl (vp_in_iff.mpr ⟨by omega, by omega⟩) dX12_tryShelf_165 ?_
                  refine lv_topi (fun t50 et50 => ?_)
                  refine lv_aload_n hx hb dX12_tryShelf_166 rfl (lv_at hl 2 rfl) ?_
                  refine lv_iload_n hx hb dX12_tryShelf_167 rfl (lv_at hl 3 rfl) ?_
                  refine lv_iconst (v := 0) hx hb dX12_tryShelf_168 (by decide) ?_
                  have hPc := hP.sub (ws' := (wd_5013416a h0 v0 r0 v1 v2 v3 v4 r1 r2 r3 r4 r5 r6 r7 v5 v6 r8 r9 r10 r11 v7 h1 r12 v8 v9 h2 r13 v10 v11 r14 v12 v13 r15 v14 w15 r16 x22 x23 h3 h4 r17 r18 r19 r20 v18 r21 r22 r23 v19 h2 g1 f21)) [0, 2] rfl
                  have hDc := hD.sub (ws' := (wd_5013416a h0 v0 r0 v1 v2 v3 v4 r1 r2 r3 r4 r5 r6 r7 v5 v6 r8 r9 r10 r11 v7 h1 r12 v8 v9 h2 r13 v10 v11 r14 v12 v13 r15 v14 w15 r16 x22 x23 h3 h4 r17 r18 r19 r20 v18 r21 r22 r23 v19 h2 g1 f21)) [0, 2] (by decide) rfl
                  have hKc := hK.sub (tys' := [(g1, .int)]) [1] rfl
                  have hFc := va_free (wc := (wd_5013416a h0 v0 r0 v1 v2 v3 v4 r1 r2 r3 r4 r5 r6 r7 v5 v6 r8 r9 r10 r11 v7 h1 r12 v8 v9 h2 r13 v10 v11 r14 v12 v13 r15 v14 w15 r16 x22 x23 h3 h4 r17 r18 r19 r20 v18 r21 r22 r23 v19 h2 g1 f21)) hD hS hA [0, 2] rfl
                  refine va_calli (va_runV (As := [.int 2, .int 0]) (rest := [.int t50, .int v25, .int t49, .int 3, .ref h0]) ⟨hx, hb, hml, hown, hts⟩ (k_X12_of_3 l dC dI h0 h2 v0 r0 v1 v2 v3 v4 r1 r2 r3 r4 r5 r6 r7 v5 v6 r8 r9 r10 r11 v7 h1 r12 v8 v9 r13 v10 v11 r14 v12 v13 r15 v14 w15 r16 x22 x23 h3 h4 r17 r18 r19 r20 v18 r21 r22 r23 v19 g1 f21 2 ⟨i_v1a, i_v1b⟩ ⟨i_v5a, i_v5b⟩ ⟨i_v6a, i_v6b⟩ ⟨i_v7a, i_v7b⟩ ⟨i_v8a, i_v8b⟩ ⟨i_v9a, i_v9b⟩ ⟨i_v10a, i_v10b⟩ ⟨i_v14a, i_v14b⟩ ⟨i_v18a, i_v18b⟩ ⟨i_v19a, i_v19b⟩ ⟨by decide, by decide⟩ ia_f21.1 H.size) (cwV 2 hts g_X12_tryShelf_6_2 rfl rfl rfl (by decide +kernel) ⟨Nat.le_of_ble_eq_true rfl, Nat.le_of_ble_eq_true rfl⟩) (pv_PV12 hPc hKc hDc (q0 := 0) rfl) rfl rfl hl.1 rfl (lv_room (Nat.le_of_ble_eq_true rfl)) dX12_tryShelf_169 ⟨Nat.le_of_ble_eq_true rfl, Nat.le_of_ble_eq_true rfl⟩) hS (fun q _ h => hFc q h) hFc (fun ra51 u t H1 locs ht hvm hwra51 hB hz1 hk1 hS => ?_)
                  try rw [hwra51] at hB
                  have hkra51_0 : ((2 : Int32)).toInt = 2 := by decide
                  obtain ⟨pt0_ra51, pt1_ra51, pt2_ra51, hP1, hK1, hD1⟩ := hB
                  rw [ht] at hP1
                  obtain ⟨hP2, hD2⟩ := va_join (wr := (wd_20b67a68 h1 g0 f20 h3 g2 fn46 h4 g3 fn45)) (w1 := (wd_5013416a h0 v0 r0 v1 v2 v3 v4 r1 r2 r3 r4 r5 r6 r7 v5 v6 r8 r9 r10 r11 v7 h1 r12 v8 v9 h2 r13 v10 v11 r14 v12 v13 r15 v14 w15 r16 x22 x23 h3 h4 r17 r18 r19 r20 v18 r21 r22 r23 v19 h2 g1 f21)) hP hD [0, 2] [1, 3, 4] rfl rfl (by decide) (by decide) hk1 hFc hP1 hD1
                  clear hP hD hPc hDc hKc hFc hP1 hK1 hD1 hk1 hz1
                  generalize H1 = H at hP2 hS ⊢
                  have hP := hP2.sub (ws' := (wd_90cd99f9 h0 v0 r0 v1 v2 v3 v4 r1 r2 r3 r4 r5 r6 r7 v5 v6 r8 r9 r10 r11 v7 h1 r12 v8 v9 h2 r13 v10 v11 r14 v12 v13 r15 v14 w15 r16 x22 x23 h3 h4 r17 r18 r19 r20 v18 r21 r22 r23 v19 h1 g0 f20 h2 g1 f21 h3 g2 fn46 h4 g3 fn45)) [3, 0, 4, 1, 2] rfl
                  have hD := hD2.sub (ws' := (wd_90cd99f9 h0 v0 r0 v1 v2 v3 v4 r1 r2 r3 r4 r5 r6 r7 v5 v6 r8 r9 r10 r11 v7 h1 r12 v8 v9 h2 r13 v10 v11 r14 v12 v13 r15 v14 w15 r16 x22 x23 h3 h4 r17 r18 r19 r20 v18 r21 r22 r23 v19 h1 g0 f20 h2 g1 f21 h3 g2 fn46 h4 g3 fn45)) [3, 0, 4, 1, 2] (by decide) rfl
                  clear hP2 hD2
                  have hJ53 : ∀ (x52 : Int32) (H : Heap) (locs : List Loc) (ls : Array Slot), 0 ≤ x52.toInt → x52.toInt ≤ 1 → va_P (dC, dI) vwCl (wd_90cd99f9 h0 v0 r0 v1 v2 v3 v4 r1 r2 r3 r4 r5 r6 r7 v5 v6 r8 r9 r10 r11 v7 h1 r12 v8 v9 h2 r13 v10 v11 r14 v12 v13 r15 v14 w15 r16 x22 x23 h3 h4 r17 r18 r19 r20 v18 r21 r22 r23 v19 h1 g0 f20 h2 g1 f21 h3 g2 fn46 h4 g3 fn45) H → va_D A (wd_90cd99f9 h0 v0 r0 v1 v2 v3 v4 r1 r2 r3 r4 r5 r6 r7 v5 v6 r8 r9 r10 r11 v7 h1 r12 v8 v9 h2 r13 v10 v11 r14 v12 v13 r15 v14 w15 r16 x22 x23 h3 h4 r17 r18 r19 r20 v18 r21 r22 r23 v19 h1 g0 f20 h2 g1 f21 h3 g2 fn46 h4 g3 fn45) → va_S A s.heap H locs → lv_has ls 7 [(6, .int x21), (5, .int x4), (0, .ref h0), (1, .int 2), (2, .int v24), (3, .int v25), (4, .int v26)] → W p l e ({ frames := 9, cells := 0, slots := 0, locals := 218 }) s m ([.ref h0, .int 2, .int v24, .int v25, .int v26] : List Value).toArray below meth c H locs 0 0 Q (F0 m 180 ls [.int x52, .int v25, .int t49, .int 3, .ref h0]) := by
                    intro x52 H locs ls qa_x52 qb_x52 hP hD hS hl
                    refine lv_iadd hx hb dX12_tryShelf_180 ?_
                    refine lv_topi (fun t54 et54 => ?_)
                    refine lv_iload hx hb dX12_tryShelf_181 (lv_at hl 6 rfl) ?_
                    have hPc := hP.sub (ws' := (wd_90cd99f9 h0 v0 r0 v1 v2 v3 v4 r1 r2 r3 r4 r5 r6 r7 v5 v6 r8 r9 r10 r11 v7 h1 r12 v8 v9 h2 r13 v10 v11 r14 v12 v13 r15 v14 w15 r16 x22 x23 h3 h4 r17 r18 r19 r20 v18 r21 r22 r23 v19 h1 g0 f20 h2 g1 f21 h3 g2 fn46 h4 g3 fn45)) [0, 1, 2, 3, 4] rfl
                    have hDc := hD.sub (ws' := (wd_90cd99f9 h0 v0 r0 v1 v2 v3 v4 r1 r2 r3 r4 r5 r6 r7 v5 v6 r8 r9 r10 r11 v7 h1 r12 v8 v9 h2 r13 v10 v11 r14 v12 v13 r15 v14 w15 r16 x22 x23 h3 h4 r17 r18 r19 r20 v18 r21 r22 r23 v19 h1 g0 f20 h2 g1 f21 h3 g2 fn46 h4 g3 fn45)) [0, 1, 2, 3, 4] (by decide) rfl
                    have hKc := hK.sub (tys' := [(g0, .int), (g1, .int), (g2, .int), (g3, .int)]) [0, 1, 2, 3] rfl
                    have hFc := va_free (wc := (wd_90cd99f9 h0 v0 r0 v1 v2 v3 v4 r1 r2 r3 r4 r5 r6 r7 v5 v6 r8 r9 r10 r11 v7 h1 r12 v8 v9 h2 r13 v10 v11 r14 v12 v13 r15 v14 w15 r16 x22 x23 h3 h4 r17 r18 r19 r20 v18 r21 r22 r23 v19 h1 g0 f20 h2 g1 f21 h3 g2 fn46 h4 g3 fn45)) hD hS hA [0, 1, 2, 3, 4] rfl
                    refine va_callv (va_runV (As := [.int 3, .int t49, .int t54, .int v26]) (rest := []) ⟨hx, hb, hml, hown, hts⟩ (k_X12_tryShelf_5 l dC dI h0 h1 h2 h3 h4 v0 r0 v1 v2 v3 v4 r1 r2 r3 r4 r5 r6 r7 v5 v6 r8 r9 r10 r11 v7 r12 v8 v9 r13 v10 v11 r14 v12 v13 r15 v14 w15 r16 x22 x23 r17 r18 r19 r20 v18 r21 r22 r23 v19 g0 f20 g1 f21 g2 fn46 g3 fn45 t49 t54 v26 ⟨i_v1a, i_v1b⟩ ⟨i_v5a, i_v5b⟩ ⟨i_v6a, i_v6b⟩ ⟨i_v7a, i_v7b⟩ ⟨i_v8a, i_v8b⟩ ⟨i_v9a, i_v9b⟩ ⟨i_v10a, i_v10b⟩ ⟨i_v14a, i_v14b⟩ ⟨i_v18a, i_v18b⟩ ⟨i_v19a, i_v19b⟩ ⟨i_v26a, i_v26b⟩ ia_f20 ia_f21 H.size) (cwV 4 hts g_X12_tryShelf_6_4 rfl rfl rfl (by decide +kernel) ⟨Nat.le_of_ble_eq_true rfl, Nat.le_of_ble_eq_true rfl⟩) (pv_PV12 hPc hKc hDc (q0 := 0) rfl) rfl rfl hl.1 rfl (lv_room (Nat.le_of_ble_eq_true rfl)) dX12_tryShelf_183 ⟨Nat.le_of_ble_eq_true rfl, Nat.le_of_ble_eq_true rfl⟩) hS (fun q _ h => hFc q h) hFc (fun u t H1 locs ht hvm hwra55 hB hz1 hk1 hS => ?_)
                    obtain ⟨x56, x57, fn58, fn59, hP1, hK1, hD1⟩ := hB
                    rw [ht] at hP1
                    obtain ⟨hP2, hD2⟩ := va_join (wr := []) (w1 := (wd_90cd99f9 h0 v0 r0 v1 v2 v3 v4 r1 r2 r3 r4 r5 r6 r7 v5 v6 r8 r9 r10 r11 v7 h1 r12 v8 v9 h2 r13 v10 v11 r14 v12 v13 r15 v14 w15 r16 x56 x57 h3 h4 r17 r18 r19 r20 v18 r21 r22 r23 v19 h1 g0 f20 h2 g1 f21 h3 g2 fn58 h4 g3 fn59)) hP hD [0, 1, 2, 3, 4] [] rfl rfl (by decide) (by decide) hk1 hFc hP1 hD1
                    clear hP hD hPc hDc hKc hFc hP1 hK1 hD1 hk1 hz1
                    generalize H1 = H at hP2 hS ⊢
                    have hP : va_P (dC, dI) vwCl (wd_90cd99f9 h0 v0 r0 v1 v2 v3 v4 r1 r2 r3 r4 r5 r6 r7 v5 v6 r8 r9 r10 r11 v7 h1 r12 v8 v9 h2 r13 v10 v11 r14 v12 v13 r15 v14 w15 r16 x56 x57 h3 h4 r17 r18 r19 r20 v18 r21 r22 r23 v19 h1 g0 f20 h2 g1 f21 h3 g2 fn58 h4 g3 fn59) H := hP2
                    have hD : va_D A (wd_90cd99f9 h0 v0 r0 v1 v2 v3 v4 r1 r2 r3 r4 r5 r6 r7 v5 v6 r8 r9 r10 r11 v7 h1 r12 v8 v9 h2 r13 v10 v11 r14 v12 v13 r15 v14 w15 r16 x56 x57 h3 h4 r17 r18 r19 r20 v18 r21 r22 r23 v19 h1 g0 f20 h2 g1 f21 h3 g2 fn58 h4 g3 fn59) := hD2
                    clear hP2 hD2
                    refine lv_aload_n hx hb dX12_tryShelf_186 rfl (lv_at hl 2 rfl) ?_
                    refine va_get (D := (dC, dI)) (ci := 12) (v := .ref h4) (C := RX12) (T := TX12) (N := 48) hx hb hts (fun _ h => List.mem_cons_of_mem _ (List.mem_append_right _ h)) hown hK hP 0 rfl rfl 38 (by decide) (hts (.fieldLink RX12 77 "LeftArgumentsModel" "room" "[I") (List.mem_cons_of_mem _ (List.mem_append_left _ (List.mem_of_getElem? (i := 31) rfl)))) (fun _ h9 => h9) rfl dX12_tryShelf_187 ?_
                    refine lv_iload hx hb dX12_tryShelf_190 (lv_at hl 0 rfl) ?_
                    refine lv_dup2_11 hx hb dX12_tryShelf_192 rfl rfl ?_
                    refine va_iald hx hb hK hP 4 3 rfl rfl (vp_in_iff.mpr ⟨by omega, by omega⟩) dX12_tryShelf_193 ?_
                    refine lv_topi (fun t60 et60 => ?_)
                    refine lv_aload_n hx hb dX12_tryShelf_194 rfl (lv_at hl 2 rfl) ?_
                    refine lv_iload_n hx hb dX12_tryShelf_195 rfl (lv_at hl 3 rfl) ?_
                    refine lv_iconst (v := 0) hx hb dX12_tryShelf_196 (by decide) ?_
                    have hPc := hP.sub (ws' := (wd_5013416a h0 v0 r0 v1 v2 v3 v4 r1 r2 r3 r4 r5 r6 r7 v5 v6 r8 r9 r10 r11 v7 h1 r12 v8 v9 h2 r13 v10 v11 r14 v12 v13 r15 v14 w15 r16 x56 x57 h3 h4 r17 r18 r19 r20 v18 r21 r22 r23 v19 h2 g1 f21)) [0, 2] rfl
                    have hDc := hD.sub (ws' := (wd_5013416a h0 v0 r0 v1 v2 v3 v4 r1 r2 r3 r4 r5 r6 r7 v5 v6 r8 r9 r10 r11 v7 h1 r12 v8 v9 h2 r13 v10 v11 r14 v12 v13 r15 v14 w15 r16 x56 x57 h3 h4 r17 r18 r19 r20 v18 r21 r22 r23 v19 h2 g1 f21)) [0, 2] (by decide) rfl
                    have hKc := hK.sub (tys' := [(g1, .int)]) [1] rfl
                    have hFc := va_free (wc := (wd_5013416a h0 v0 r0 v1 v2 v3 v4 r1 r2 r3 r4 r5 r6 r7 v5 v6 r8 r9 r10 r11 v7 h1 r12 v8 v9 h2 r13 v10 v11 r14 v12 v13 r15 v14 w15 r16 x56 x57 h3 h4 r17 r18 r19 r20 v18 r21 r22 r23 v19 h2 g1 f21)) hD hS hA [0, 2] rfl
                    refine va_calli (va_runV (As := [.int 2, .int 0]) (rest := [.int t60, .int x21, .ref h4]) ⟨hx, hb, hml, hown, hts⟩ (k_X12_of_3 l dC dI h0 h2 v0 r0 v1 v2 v3 v4 r1 r2 r3 r4 r5 r6 r7 v5 v6 r8 r9 r10 r11 v7 h1 r12 v8 v9 r13 v10 v11 r14 v12 v13 r15 v14 w15 r16 x56 x57 h3 h4 r17 r18 r19 r20 v18 r21 r22 r23 v19 g1 f21 2 ⟨i_v1a, i_v1b⟩ ⟨i_v5a, i_v5b⟩ ⟨i_v6a, i_v6b⟩ ⟨i_v7a, i_v7b⟩ ⟨i_v8a, i_v8b⟩ ⟨i_v9a, i_v9b⟩ ⟨i_v10a, i_v10b⟩ ⟨i_v14a, i_v14b⟩ ⟨i_v18a, i_v18b⟩ ⟨i_v19a, i_v19b⟩ ⟨by decide, by decide⟩ ia_f21.1 H.size) (cwV 2 hts g_X12_tryShelf_6_2 rfl rfl rfl (by decide +kernel) ⟨Nat.le_of_ble_eq_true rfl, Nat.le_of_ble_eq_true rfl⟩) (pv_PV12 hPc hKc hDc (q0 := 0) rfl) rfl rfl hl.1 rfl (lv_room (Nat.le_of_ble_eq_true rfl)) dX12_tryShelf_197 ⟨Nat.le_of_ble_eq_true rfl, Nat.le_of_ble_eq_true rfl⟩) hS (fun q _ h => hFc q h) hFc (fun ra61 u t H1 locs ht hvm hwra61 hB hz1 hk1 hS => ?_)
                    try rw [hwra61] at hB
                    have hkra61_0 : ((2 : Int32)).toInt = 2 := by decide
                    obtain ⟨pt0_ra61, pt1_ra61, pt2_ra61, hP1, hK1, hD1⟩ := hB
                    rw [ht] at hP1
                    obtain ⟨hP2, hD2⟩ := va_join (wr := (wd_20b67a68 h1 g0 f20 h3 g2 fn58 h4 g3 fn59)) (w1 := (wd_5013416a h0 v0 r0 v1 v2 v3 v4 r1 r2 r3 r4 r5 r6 r7 v5 v6 r8 r9 r10 r11 v7 h1 r12 v8 v9 h2 r13 v10 v11 r14 v12 v13 r15 v14 w15 r16 x56 x57 h3 h4 r17 r18 r19 r20 v18 r21 r22 r23 v19 h2 g1 f21)) hP hD [0, 2] [1, 3, 4] rfl rfl (by decide) (by decide) hk1 hFc hP1 hD1
                    clear hP hD hPc hDc hKc hFc hP1 hK1 hD1 hk1 hz1
                    generalize H1 = H at hP2 hS ⊢
                    have hP := hP2.sub (ws' := (wd_90cd99f9 h0 v0 r0 v1 v2 v3 v4 r1 r2 r3 r4 r5 r6 r7 v5 v6 r8 r9 r10 r11 v7 h1 r12 v8 v9 h2 r13 v10 v11 r14 v12 v13 r15 v14 w15 r16 x56 x57 h3 h4 r17 r18 r19 r20 v18 r21 r22 r23 v19 h1 g0 f20 h2 g1 f21 h3 g2 fn58 h4 g3 fn59)) [3, 0, 4, 1, 2] rfl
                    have hD := hD2.sub (ws' := (wd_90cd99f9 h0 v0 r0 v1 v2 v3 v4 r1 r2 r3 r4 r5 r6 r7 v5 v6 r8 r9 r10 r11 v7 h1 r12 v8 v9 h2 r13 v10 v11 r14 v12 v13 r15 v14 w15 r16 x56 x57 h3 h4 r17 r18 r19 r20 v18 r21 r22 r23 v19 h1 g0 f20 h2 g1 f21 h3 g2 fn58 h4 g3 fn59)) [3, 0, 4, 1, 2] (by decide) rfl
                    clear hP2 hD2
                    refine lv_isub hx hb dX12_tryShelf_200 ?_
                    refine lv_topi (fun t62 et62 => ?_)
                    refine va_iast hx hb hK hP hD hS 4 3 rfl rfl (vp_in_iff.mpr ⟨by omega, by omega⟩) dX12_tryShelf_201 (fun H locs hP hD hS => ?_)
                    obtain ⟨fn63, efn63⟩ : ∃ g : Nat → Int32, g = upd fn59 (Int32.toNatClampNeg x21) t62 := ⟨_, rfl⟩
                    rw [← efn63] at hP hD
                    have hP : va_P (dC, dI) vwCl (wd_90cd99f9 h0 v0 r0 v1 v2 v3 v4 r1 r2 r3 r4 r5 r6 r7 v5 v6 r8 r9 r10 r11 v7 h1 r12 v8 v9 h2 r13 v10 v11 r14 v12 v13 r15 v14 w15 r16 x56 x57 h3 h4 r17 r18 r19 r20 v18 r21 r22 r23 v19 h1 g0 f20 h2 g1 f21 h3 g2 fn58 h4 g3 fn63) H := hP
                    have hD : va_D A (wd_90cd99f9 h0 v0 r0 v1 v2 v3 v4 r1 r2 r3 r4 r5 r6 r7 v5 v6 r8 r9 r10 r11 v7 h1 r12 v8 v9 h2 r13 v10 v11 r14 v12 v13 r15 v14 w15 r16 x56 x57 h3 h4 r17 r18 r19 r20 v18 r21 r22 r23 v19 h1 g0 f20 h2 g1 f21 h3 g2 fn58 h4 g3 fn63) := hD
                    exact hJ37 x56 x57 fn58 fn63 H locs ls hP hD hS (lv_sub hl [0, 1, 2, 3, 4, 5, 6] rfl)
                  refine lv_icmp_ne (tgt := 179) hx hb dX12_tryShelf_172 (by decide) (fun c64 => ?_) (fun c64 => ?_)
                  · skip
                    have fc64 : ¬ (t50.toInt = ra51.toInt) := fun h9 => c64 (Int32.toInt_inj.mp h9)
                    have r1c64 := Int32.toInt_lt t50
                    have r2c64 := Int32.toInt_lt ra51
                    have r3c64 := Int32.le_toInt t50
                    have r4c64 := Int32.le_toInt ra51
                    refine lv_iconst (v := 0) hx hb dX12_tryShelf_179 (by decide) ?_
                    exact hJ53 0 H locs ls (by decide) (by decide) hP hD hS (lv_sub hl [0, 1, 2, 3, 4, 5, 6] rfl)
                  · skip
                    have fc64 : t50.toInt = ra51.toInt := congrArg Int32.toInt c64
                    have r1c64 := Int32.toInt_lt t50
                    have r2c64 := Int32.toInt_lt ra51
                    have r3c64 := Int32.le_toInt t50
                    have r4c64 := Int32.le_toInt ra51
                    refine lv_iconst (v := 1) hx hb dX12_tryShelf_175 (by decide) ?_
                    refine lv_goto (tgt := 180) hx hb dX12_tryShelf_176 (by decide) ?_
                    exact hJ53 1 H locs ls (by decide) (by decide) hP hD hS (lv_sub hl [0, 1, 2, 3, 4, 5, 6] rfl)
              · skip
                have fc39 : ¬ (v26.toInt = 0) := fun h9 => c39 (Int32.toInt_inj.mp h9)
                refine lv_aload_n hx hb dX12_tryShelf_87 rfl (lv_at hl 2 rfl) ?_
                refine va_get (D := (dC, dI)) (ci := 12) (v := .ref h4) (C := RX12) (T := TX12) (N := 48) hx hb hts (fun _ h => List.mem_cons_of_mem _ (List.mem_append_right _ h)) hown hK hP 0 rfl rfl 38 (by decide) (hts (.fieldLink RX12 77 "LeftArgumentsModel" "room" "[I") (List.mem_cons_of_mem _ (List.mem_append_left _ (List.mem_of_getElem? (i := 31) rfl)))) (fun _ h9 => h9) rfl dX12_tryShelf_88 ?_
                refine lv_iload hx hb dX12_tryShelf_91 (lv_at hl 0 rfl) ?_
                refine va_iald hx hb hK hP 4 3 rfl rfl (vp_in_iff.mpr ⟨by omega, by omega⟩) dX12_tryShelf_93 ?_
                refine lv_topi (fun t65 et65 => ?_)
                refine lv_aload_n hx hb dX12_tryShelf_94 rfl (lv_at hl 2 rfl) ?_
                refine lv_iload_n hx hb dX12_tryShelf_95 rfl (lv_at hl 3 rfl) ?_
                refine lv_iconst (v := 0) hx hb dX12_tryShelf_96 (by decide) ?_
                have hPc := hP.sub (ws' := (wd_5013416a h0 v0 r0 v1 v2 v3 v4 r1 r2 r3 r4 r5 r6 r7 v5 v6 r8 r9 r10 r11 v7 h1 r12 v8 v9 h2 r13 v10 v11 r14 v12 v13 r15 v14 w15 r16 x22 x23 h3 h4 r17 r18 r19 r20 v18 r21 r22 r23 v19 h2 g1 f21)) [0, 2] rfl
                have hDc := hD.sub (ws' := (wd_5013416a h0 v0 r0 v1 v2 v3 v4 r1 r2 r3 r4 r5 r6 r7 v5 v6 r8 r9 r10 r11 v7 h1 r12 v8 v9 h2 r13 v10 v11 r14 v12 v13 r15 v14 w15 r16 x22 x23 h3 h4 r17 r18 r19 r20 v18 r21 r22 r23 v19 h2 g1 f21)) [0, 2] (by decide) rfl
                have hKc := hK.sub (tys' := [(g1, .int)]) [1] rfl
                have hFc := va_free (wc := (wd_5013416a h0 v0 r0 v1 v2 v3 v4 r1 r2 r3 r4 r5 r6 r7 v5 v6 r8 r9 r10 r11 v7 h1 r12 v8 v9 h2 r13 v10 v11 r14 v12 v13 r15 v14 w15 r16 x22 x23 h3 h4 r17 r18 r19 r20 v18 r21 r22 r23 v19 h2 g1 f21)) hD hS hA [0, 2] rfl
                refine va_calli (va_runV (As := [.int 2, .int 0]) (rest := [.int t65]) ⟨hx, hb, hml, hown, hts⟩ (k_X12_of_3 l dC dI h0 h2 v0 r0 v1 v2 v3 v4 r1 r2 r3 r4 r5 r6 r7 v5 v6 r8 r9 r10 r11 v7 h1 r12 v8 v9 r13 v10 v11 r14 v12 v13 r15 v14 w15 r16 x22 x23 h3 h4 r17 r18 r19 r20 v18 r21 r22 r23 v19 g1 f21 2 ⟨i_v1a, i_v1b⟩ ⟨i_v5a, i_v5b⟩ ⟨i_v6a, i_v6b⟩ ⟨i_v7a, i_v7b⟩ ⟨i_v8a, i_v8b⟩ ⟨i_v9a, i_v9b⟩ ⟨i_v10a, i_v10b⟩ ⟨i_v14a, i_v14b⟩ ⟨i_v18a, i_v18b⟩ ⟨i_v19a, i_v19b⟩ ⟨by decide, by decide⟩ ia_f21.1 H.size) (cwV 2 hts g_X12_tryShelf_6_2 rfl rfl rfl (by decide +kernel) ⟨Nat.le_of_ble_eq_true rfl, Nat.le_of_ble_eq_true rfl⟩) (pv_PV12 hPc hKc hDc (q0 := 0) rfl) rfl rfl hl.1 rfl (lv_room (Nat.le_of_ble_eq_true rfl)) dX12_tryShelf_97 ⟨Nat.le_of_ble_eq_true rfl, Nat.le_of_ble_eq_true rfl⟩) hS (fun q _ h => hFc q h) hFc (fun ra66 u t H1 locs ht hvm hwra66 hB hz1 hk1 hS => ?_)
                try rw [hwra66] at hB
                have hkra66_0 : ((2 : Int32)).toInt = 2 := by decide
                obtain ⟨pt0_ra66, pt1_ra66, pt2_ra66, hP1, hK1, hD1⟩ := hB
                rw [ht] at hP1
                obtain ⟨hP2, hD2⟩ := va_join (wr := (wd_20b67a68 h1 g0 f20 h3 g2 fn24 h4 g3 fn25)) (w1 := (wd_5013416a h0 v0 r0 v1 v2 v3 v4 r1 r2 r3 r4 r5 r6 r7 v5 v6 r8 r9 r10 r11 v7 h1 r12 v8 v9 h2 r13 v10 v11 r14 v12 v13 r15 v14 w15 r16 x22 x23 h3 h4 r17 r18 r19 r20 v18 r21 r22 r23 v19 h2 g1 f21)) hP hD [0, 2] [1, 3, 4] rfl rfl (by decide) (by decide) hk1 hFc hP1 hD1
                clear hP hD hPc hDc hKc hFc hP1 hK1 hD1 hk1 hz1
                generalize H1 = H at hP2 hS ⊢
                have hP := hP2.sub (ws' := (wd_90cd99f9 h0 v0 r0 v1 v2 v3 v4 r1 r2 r3 r4 r5 r6 r7 v5 v6 r8 r9 r10 r11 v7 h1 r12 v8 v9 h2 r13 v10 v11 r14 v12 v13 r15 v14 w15 r16 x22 x23 h3 h4 r17 r18 r19 r20 v18 r21 r22 r23 v19 h1 g0 f20 h2 g1 f21 h3 g2 fn24 h4 g3 fn25)) [3, 0, 4, 1, 2] rfl
                have hD := hD2.sub (ws' := (wd_90cd99f9 h0 v0 r0 v1 v2 v3 v4 r1 r2 r3 r4 r5 r6 r7 v5 v6 r8 r9 r10 r11 v7 h1 r12 v8 v9 h2 r13 v10 v11 r14 v12 v13 r15 v14 w15 r16 x22 x23 h3 h4 r17 r18 r19 r20 v18 r21 r22 r23 v19 h1 g0 f20 h2 g1 f21 h3 g2 fn24 h4 g3 fn25)) [3, 0, 4, 1, 2] (by decide) rfl
                clear hP2 hD2
                refine lv_iadd hx hb dX12_tryShelf_100 ?_
                refine lv_topi (fun t67 et67 => ?_)
                refine lv_aload_n hx hb dX12_tryShelf_101 rfl (lv_at hl 2 rfl) ?_
                refine va_get (D := (dC, dI)) (ci := 12) (v := .ref h1) (C := RX12) (T := TX12) (N := 48) hx hb hts (fun _ h => List.mem_cons_of_mem _ (List.mem_append_right _ h)) hown hK hP 0 rfl rfl 20 (by decide) (hts (.fieldLink RX12 46 "LeftArgumentsModel" "rule" "[I") (List.mem_cons_of_mem _ (List.mem_append_left _ (List.mem_of_getElem? (i := 37) rfl)))) (fun _ h9 => h9) rfl dX12_tryShelf_102 ?_
                refine lv_iconst (v := 0) hx hb dX12_tryShelf_105 (by decide) ?_
                refine va_iald hx hb hK hP 1 0 rfl rfl (pv_c (x := 0) (n := 4) (by decide)) dX12_tryShelf_106 ?_
                refine lv_topi (fun t68 et68 => ?_)
                have gat68 : 0 ≤ t68.toInt := by rw [et68]; exact ia_f20.2
                refine lv_icmp_gt (tgt := 202) hx hb dX12_tryShelf_107 (by decide) (fun c69 => ?_) (fun c69 => ?_)
                · skip
                  have fc69 : t68.toInt < t67.toInt := Int32.lt_iff_toInt_lt.mp c69
                  have r1c69 := Int32.toInt_lt t67
                  have r2c69 := Int32.toInt_lt t68
                  have r3c69 := Int32.le_toInt t67
                  have r4c69 := Int32.le_toInt t68
                  exact hJ37 x22 x23 fn24 fn25 H locs ls hP hD hS (lv_sub hl [0, 1, 2, 3, 4, 5, 6] rfl)
                · skip
                  have fc69 : ¬ (t68.toInt < t67.toInt) := fun h9 => c69 (Int32.lt_iff_toInt_lt.mpr h9)
                  have r1c69 := Int32.toInt_lt t67
                  have r2c69 := Int32.toInt_lt t68
                  have r3c69 := Int32.le_toInt t67
                  have r4c69 := Int32.le_toInt t68
                  refine lv_goto (tgt := 123) hx hb dX12_tryShelf_110 (by decide) ?_
                  refine lv_aload_n hx hb dX12_tryShelf_123 rfl (lv_at hl 2 rfl) ?_
                  refine va_get (D := (dC, dI)) (ci := 12) (v := .ref h4) (C := RX12) (T := TX12) (N := 48) hx hb hts (fun _ h => List.mem_cons_of_mem _ (List.mem_append_right _ h)) hown hK hP 0 rfl rfl 38 (by decide) (hts (.fieldLink RX12 77 "LeftArgumentsModel" "room" "[I") (List.mem_cons_of_mem _ (List.mem_append_left _ (List.mem_of_getElem? (i := 31) rfl)))) (fun _ h9 => h9) rfl dX12_tryShelf_124 ?_
                  refine lv_iload hx hb dX12_tryShelf_127 (lv_at hl 0 rfl) ?_
                  refine lv_dup2_11 hx hb dX12_tryShelf_129 rfl rfl ?_
                  refine va_iald hx hb hK hP 4 3 rfl rfl (vp_in_iff.mpr ⟨by omega, by omega⟩) dX12_tryShelf_130 ?_
                  refine lv_topi (fun t70 et70 => ?_)
                  have gmt70 : t70.toInt = t65.toInt := by rw [et70, et65]
                  refine lv_aload_n hx hb dX12_tryShelf_131 rfl (lv_at hl 2 rfl) ?_
                  refine lv_iload_n hx hb dX12_tryShelf_132 rfl (lv_at hl 3 rfl) ?_
                  refine lv_iconst (v := 0) hx hb dX12_tryShelf_133 (by decide) ?_
                  have hPc := hP.sub (ws' := (wd_5013416a h0 v0 r0 v1 v2 v3 v4 r1 r2 r3 r4 r5 r6 r7 v5 v6 r8 r9 r10 r11 v7 h1 r12 v8 v9 h2 r13 v10 v11 r14 v12 v13 r15 v14 w15 r16 x22 x23 h3 h4 r17 r18 r19 r20 v18 r21 r22 r23 v19 h2 g1 f21)) [0, 2] rfl
                  have hDc := hD.sub (ws' := (wd_5013416a h0 v0 r0 v1 v2 v3 v4 r1 r2 r3 r4 r5 r6 r7 v5 v6 r8 r9 r10 r11 v7 h1 r12 v8 v9 h2 r13 v10 v11 r14 v12 v13 r15 v14 w15 r16 x22 x23 h3 h4 r17 r18 r19 r20 v18 r21 r22 r23 v19 h2 g1 f21)) [0, 2] (by decide) rfl
                  have hKc := hK.sub (tys' := [(g1, .int)]) [1] rfl
                  have hFc := va_free (wc := (wd_5013416a h0 v0 r0 v1 v2 v3 v4 r1 r2 r3 r4 r5 r6 r7 v5 v6 r8 r9 r10 r11 v7 h1 r12 v8 v9 h2 r13 v10 v11 r14 v12 v13 r15 v14 w15 r16 x22 x23 h3 h4 r17 r18 r19 r20 v18 r21 r22 r23 v19 h2 g1 f21)) hD hS hA [0, 2] rfl
                  refine va_calli (va_runV (As := [.int 2, .int 0]) (rest := [.int t70, .int x21, .ref h4]) ⟨hx, hb, hml, hown, hts⟩ (k_X12_of_3 l dC dI h0 h2 v0 r0 v1 v2 v3 v4 r1 r2 r3 r4 r5 r6 r7 v5 v6 r8 r9 r10 r11 v7 h1 r12 v8 v9 r13 v10 v11 r14 v12 v13 r15 v14 w15 r16 x22 x23 h3 h4 r17 r18 r19 r20 v18 r21 r22 r23 v19 g1 f21 2 ⟨i_v1a, i_v1b⟩ ⟨i_v5a, i_v5b⟩ ⟨i_v6a, i_v6b⟩ ⟨i_v7a, i_v7b⟩ ⟨i_v8a, i_v8b⟩ ⟨i_v9a, i_v9b⟩ ⟨i_v10a, i_v10b⟩ ⟨i_v14a, i_v14b⟩ ⟨i_v18a, i_v18b⟩ ⟨i_v19a, i_v19b⟩ ⟨by decide, by decide⟩ ia_f21.1 H.size) (cwV 2 hts g_X12_tryShelf_6_2 rfl rfl rfl (by decide +kernel) ⟨Nat.le_of_ble_eq_true rfl, Nat.le_of_ble_eq_true rfl⟩) (pv_PV12 hPc hKc hDc (q0 := 0) rfl) rfl rfl hl.1 rfl (lv_room (Nat.le_of_ble_eq_true rfl)) dX12_tryShelf_134 ⟨Nat.le_of_ble_eq_true rfl, Nat.le_of_ble_eq_true rfl⟩) hS (fun q _ h => hFc q h) hFc (fun ra71 u t H1 locs ht hvm hwra71 hB hz1 hk1 hS => ?_)
                  try rw [hwra71] at hB
                  have hkra71_0 : ((2 : Int32)).toInt = 2 := by decide
                  obtain ⟨pt0_ra71, pt1_ra71, pt2_ra71, hP1, hK1, hD1⟩ := hB
                  rw [ht] at hP1
                  obtain ⟨hP2, hD2⟩ := va_join (wr := (wd_20b67a68 h1 g0 f20 h3 g2 fn24 h4 g3 fn25)) (w1 := (wd_5013416a h0 v0 r0 v1 v2 v3 v4 r1 r2 r3 r4 r5 r6 r7 v5 v6 r8 r9 r10 r11 v7 h1 r12 v8 v9 h2 r13 v10 v11 r14 v12 v13 r15 v14 w15 r16 x22 x23 h3 h4 r17 r18 r19 r20 v18 r21 r22 r23 v19 h2 g1 f21)) hP hD [0, 2] [1, 3, 4] rfl rfl (by decide) (by decide) hk1 hFc hP1 hD1
                  clear hP hD hPc hDc hKc hFc hP1 hK1 hD1 hk1 hz1
                  generalize H1 = H at hP2 hS ⊢
                  have hP := hP2.sub (ws' := (wd_90cd99f9 h0 v0 r0 v1 v2 v3 v4 r1 r2 r3 r4 r5 r6 r7 v5 v6 r8 r9 r10 r11 v7 h1 r12 v8 v9 h2 r13 v10 v11 r14 v12 v13 r15 v14 w15 r16 x22 x23 h3 h4 r17 r18 r19 r20 v18 r21 r22 r23 v19 h1 g0 f20 h2 g1 f21 h3 g2 fn24 h4 g3 fn25)) [3, 0, 4, 1, 2] rfl
                  have hD := hD2.sub (ws' := (wd_90cd99f9 h0 v0 r0 v1 v2 v3 v4 r1 r2 r3 r4 r5 r6 r7 v5 v6 r8 r9 r10 r11 v7 h1 r12 v8 v9 h2 r13 v10 v11 r14 v12 v13 r15 v14 w15 r16 x22 x23 h3 h4 r17 r18 r19 r20 v18 r21 r22 r23 v19 h1 g0 f20 h2 g1 f21 h3 g2 fn24 h4 g3 fn25)) [3, 0, 4, 1, 2] (by decide) rfl
                  clear hP2 hD2
                  refine lv_iadd hx hb dX12_tryShelf_137 ?_
                  refine lv_topi (fun t72 et72 => ?_)
                  refine va_iast hx hb hK hP hD hS 4 3 rfl rfl (vp_in_iff.mpr ⟨by omega, by omega⟩) dX12_tryShelf_138 (fun H locs hP hD hS => ?_)
                  obtain ⟨fn73, efn73⟩ : ∃ g : Nat → Int32, g = upd fn25 (Int32.toNatClampNeg x21) t72 := ⟨_, rfl⟩
                  rw [← efn73] at hP hD
                  have hP : va_P (dC, dI) vwCl (wd_90cd99f9 h0 v0 r0 v1 v2 v3 v4 r1 r2 r3 r4 r5 r6 r7 v5 v6 r8 r9 r10 r11 v7 h1 r12 v8 v9 h2 r13 v10 v11 r14 v12 v13 r15 v14 w15 r16 x22 x23 h3 h4 r17 r18 r19 r20 v18 r21 r22 r23 v19 h1 g0 f20 h2 g1 f21 h3 g2 fn24 h4 g3 fn73) H := hP
                  have hD : va_D A (wd_90cd99f9 h0 v0 r0 v1 v2 v3 v4 r1 r2 r3 r4 r5 r6 r7 v5 v6 r8 r9 r10 r11 v7 h1 r12 v8 v9 h2 r13 v10 v11 r14 v12 v13 r15 v14 w15 r16 x22 x23 h3 h4 r17 r18 r19 r20 v18 r21 r22 r23 v19 h1 g0 f20 h2 g1 f21 h3 g2 fn24 h4 g3 fn73) := hD
                  refine lv_aload_n hx hb dX12_tryShelf_139 rfl (lv_at hl 2 rfl) ?_
                  refine va_get (D := (dC, dI)) (ci := 12) (v := .ref h3) (C := RX12) (T := TX12) (N := 48) hx hb hts (fun _ h => List.mem_cons_of_mem _ (List.mem_append_right _ h)) hown hK hP 0 rfl rfl 37 (by decide) (hts (.fieldLink RX12 74 "LeftArgumentsModel" "onShelf" "[I") (List.mem_cons_of_mem _ (List.mem_append_left _ (List.mem_of_getElem? (i := 15) rfl)))) (fun _ h9 => h9) rfl dX12_tryShelf_140 ?_
                  refine lv_iload_n hx hb dX12_tryShelf_143 rfl (lv_at hl 3 rfl) ?_
                  refine lv_iload hx hb dX12_tryShelf_144 (lv_at hl 0 rfl) ?_
                  refine va_iast hx hb hK hP hD hS 3 2 rfl rfl (pv_c (x := 2) (n := 8) (by decide)) dX12_tryShelf_146 (fun H locs hP hD hS => ?_)
                  obtain ⟨fn74, efn74⟩ : ∃ g : Nat → Int32, g = upd fn24 (Int32.toNatClampNeg 2) x21 := ⟨_, rfl⟩
                  rw [← efn74] at hP hD
                  have hP : va_P (dC, dI) vwCl (wd_90cd99f9 h0 v0 r0 v1 v2 v3 v4 r1 r2 r3 r4 r5 r6 r7 v5 v6 r8 r9 r10 r11 v7 h1 r12 v8 v9 h2 r13 v10 v11 r14 v12 v13 r15 v14 w15 r16 x22 x23 h3 h4 r17 r18 r19 r20 v18 r21 r22 r23 v19 h1 g0 f20 h2 g1 f21 h3 g2 fn74 h4 g3 fn73) H := hP
                  have hD : va_D A (wd_90cd99f9 h0 v0 r0 v1 v2 v3 v4 r1 r2 r3 r4 r5 r6 r7 v5 v6 r8 r9 r10 r11 v7 h1 r12 v8 v9 h2 r13 v10 v11 r14 v12 v13 r15 v14 w15 r16 x22 x23 h3 h4 r17 r18 r19 r20 v18 r21 r22 r23 v19 h1 g0 f20 h2 g1 f21 h3 g2 fn74 h4 g3 fn73) := hD
                  refine lv_aload_n hx hb dX12_tryShelf_147 rfl (lv_at hl 2 rfl) ?_
                  refine lv_iload_n hx hb dX12_tryShelf_148 rfl (lv_at hl 3 rfl) ?_
                  refine lv_iconst (v := 1) hx hb dX12_tryShelf_149 (by decide) ?_
                  refine lv_iadd hx hb dX12_tryShelf_150 ?_
                  refine lv_topi (fun tv75 etv75 => ?_)
                  obtain rfl : tv75 = (3 : Int32) := etv75.trans (by first | rfl | decide)
                  refine lv_bipush (v := 10) hx hb dX12_tryShelf_151 (by decide) ?_
                  refine lv_iload_n hx hb dX12_tryShelf_153 rfl (lv_at hl 4 rfl) ?_
                  refine lv_imul hx hb dX12_tryShelf_154 ?_
                  refine lv_topi (fun t76 et76 => ?_)
                  refine lv_iload hx hb dX12_tryShelf_155 (lv_at hl 0 rfl) ?_
                  refine lv_iadd hx hb dX12_tryShelf_157 ?_
                  refine lv_topi (fun t77 et77 => ?_)
                  refine lv_iload_n hx hb dX12_tryShelf_158 rfl (lv_at hl 5 rfl) ?_
                  refine lv_aload_n hx hb dX12_tryShelf_159 rfl (lv_at hl 2 rfl) ?_
                  refine va_get (D := (dC, dI)) (ci := 12) (v := .ref h4) (C := RX12) (T := TX12) (N := 48) hx hb hts (fun _ h => List.mem_cons_of_mem _ (List.mem_append_right _ h)) hown hK hP 0 rfl rfl 38 (by decide) (hts (.fieldLink RX12 77 "LeftArgumentsModel" "room" "[I") (List.mem_cons_of_mem _ (List.mem_append_left _ (List.mem_of_getElem? (i := 31) rfl)))) (fun _ h9 => h9) rfl dX12_tryShelf_160 ?_
                  refine lv_iload hx hb dX12_tryShelf_163 (lv_at hl 0 rfl) ?_
                  refine va_iald hx hb hK hP 4 3 rfl rfl (vp_in_iff.mpr ⟨by omega, by omega⟩) dX12_tryShelf_165 ?_
                  refine lv_topi (fun t78 et78 => ?_)
                  refine lv_aload_n hx hb dX12_tryShelf_166 rfl (lv_at hl 2 rfl) ?_
                  refine lv_iload_n hx hb dX12_tryShelf_167 rfl (lv_at hl 3 rfl) ?_
                  refine lv_iconst (v := 0) hx hb dX12_tryShelf_168 (by decide) ?_
                  have hPc := hP.sub (ws' := (wd_5013416a h0 v0 r0 v1 v2 v3 v4 r1 r2 r3 r4 r5 r6 r7 v5 v6 r8 r9 r10 r11 v7 h1 r12 v8 v9 h2 r13 v10 v11 r14 v12 v13 r15 v14 w15 r16 x22 x23 h3 h4 r17 r18 r19 r20 v18 r21 r22 r23 v19 h2 g1 f21)) [0, 2] rfl
                  have hDc := hD.sub (ws' := (wd_5013416a h0 v0 r0 v1 v2 v3 v4 r1 r2 r3 r4 r5 r6 r7 v5 v6 r8 r9 r10 r11 v7 h1 r12 v8 v9 h2 r13 v10 v11 r14 v12 v13 r15 v14 w15 r16 x22 x23 h3 h4 r17 r18 r19 r20 v18 r21 r22 r23 v19 h2 g1 f21)) [0, 2] (by decide) rfl
                  have hKc := hK.sub (tys' := [(g1, .int)]) [1] rfl
                  have hFc := va_free (wc := (wd_5013416a h0 v0 r0 v1 v2 v3 v4 r1 r2 r3 r4 r5 r6 r7 v5 v6 r8 r9 r10 r11 v7 h1 r12 v8 v9 h2 r13 v10 v11 r14 v12 v13 r15 v14 w15 r16 x22 x23 h3 h4 r17 r18 r19 r20 v18 r21 r22 r23 v19 h2 g1 f21)) hD hS hA [0, 2] rfl
                  refine va_calli (va_runV (As := [.int 2, .int 0]) (rest := [.int t78, .int v25, .int t77, .int 3, .ref h0]) ⟨hx, hb, hml, hown, hts⟩ (k_X12_of_3 l dC dI h0 h2 v0 r0 v1 v2 v3 v4 r1 r2 r3 r4 r5 r6 r7 v5 v6 r8 r9 r10 r11 v7 h1 r12 v8 v9 r13 v10 v11 r14 v12 v13 r15 v14 w15 r16 x22 x23 h3 h4 r17 r18 r19 r20 v18 r21 r22 r23 v19 g1 f21 2 ⟨i_v1a, i_v1b⟩ ⟨i_v5a, i_v5b⟩ ⟨i_v6a, i_v6b⟩ ⟨i_v7a, i_v7b⟩ ⟨i_v8a, i_v8b⟩ ⟨i_v9a, i_v9b⟩ ⟨i_v10a, i_v10b⟩ ⟨i_v14a, i_v14b⟩ ⟨i_v18a, i_v18b⟩ ⟨i_v19a, i_v19b⟩ ⟨by decide, by decide⟩ ia_f21.1 H.size) (cwV 2 hts g_X12_tryShelf_6_2 rfl rfl rfl (by decide +kernel) ⟨Nat.le_of_ble_eq_true rfl, Nat.le_of_ble_eq_true rfl⟩) (pv_PV12 hPc hKc hDc (q0 := 0) rfl) rfl rfl hl.1 rfl (lv_room (Nat.le_of_ble_eq_true rfl)) dX12_tryShelf_169 ⟨Nat.le_of_ble_eq_true rfl, Nat.le_of_ble_eq_true rfl⟩) hS (fun q _ h => hFc q h) hFc (fun ra79 u t H1 locs ht hvm hwra79 hB hz1 hk1 hS => ?_)
                  try rw [hwra79] at hB
                  have hkra79_0 : ((2 : Int32)).toInt = 2 := by decide
                  obtain ⟨pt0_ra79, pt1_ra79, pt2_ra79, hP1, hK1, hD1⟩ := hB
                  rw [ht] at hP1
                  obtain ⟨hP2, hD2⟩ := va_join (wr := (wd_20b67a68 h1 g0 f20 h3 g2 fn74 h4 g3 fn73)) (w1 := (wd_5013416a h0 v0 r0 v1 v2 v3 v4 r1 r2 r3 r4 r5 r6 r7 v5 v6 r8 r9 r10 r11 v7 h1 r12 v8 v9 h2 r13 v10 v11 r14 v12 v13 r15 v14 w15 r16 x22 x23 h3 h4 r17 r18 r19 r20 v18 r21 r22 r23 v19 h2 g1 f21)) hP hD [0, 2] [1, 3, 4] rfl rfl (by decide) (by decide) hk1 hFc hP1 hD1
                  clear hP hD hPc hDc hKc hFc hP1 hK1 hD1 hk1 hz1
                  generalize H1 = H at hP2 hS ⊢
                  have hP := hP2.sub (ws' := (wd_90cd99f9 h0 v0 r0 v1 v2 v3 v4 r1 r2 r3 r4 r5 r6 r7 v5 v6 r8 r9 r10 r11 v7 h1 r12 v8 v9 h2 r13 v10 v11 r14 v12 v13 r15 v14 w15 r16 x22 x23 h3 h4 r17 r18 r19 r20 v18 r21 r22 r23 v19 h1 g0 f20 h2 g1 f21 h3 g2 fn74 h4 g3 fn73)) [3, 0, 4, 1, 2] rfl
                  have hD := hD2.sub (ws' := (wd_90cd99f9 h0 v0 r0 v1 v2 v3 v4 r1 r2 r3 r4 r5 r6 r7 v5 v6 r8 r9 r10 r11 v7 h1 r12 v8 v9 h2 r13 v10 v11 r14 v12 v13 r15 v14 w15 r16 x22 x23 h3 h4 r17 r18 r19 r20 v18 r21 r22 r23 v19 h1 g0 f20 h2 g1 f21 h3 g2 fn74 h4 g3 fn73)) [3, 0, 4, 1, 2] (by decide) rfl
                  clear hP2 hD2
                  have hJ81 : ∀ (x80 : Int32) (H : Heap) (locs : List Loc) (ls : Array Slot), 0 ≤ x80.toInt → x80.toInt ≤ 1 → va_P (dC, dI) vwCl (wd_90cd99f9 h0 v0 r0 v1 v2 v3 v4 r1 r2 r3 r4 r5 r6 r7 v5 v6 r8 r9 r10 r11 v7 h1 r12 v8 v9 h2 r13 v10 v11 r14 v12 v13 r15 v14 w15 r16 x22 x23 h3 h4 r17 r18 r19 r20 v18 r21 r22 r23 v19 h1 g0 f20 h2 g1 f21 h3 g2 fn74 h4 g3 fn73) H → va_D A (wd_90cd99f9 h0 v0 r0 v1 v2 v3 v4 r1 r2 r3 r4 r5 r6 r7 v5 v6 r8 r9 r10 r11 v7 h1 r12 v8 v9 h2 r13 v10 v11 r14 v12 v13 r15 v14 w15 r16 x22 x23 h3 h4 r17 r18 r19 r20 v18 r21 r22 r23 v19 h1 g0 f20 h2 g1 f21 h3 g2 fn74 h4 g3 fn73) → va_S A s.heap H locs → lv_has ls 7 [(6, .int x21), (5, .int x4), (0, .ref h0), (1, .int 2), (2, .int v24), (3, .int v25), (4, .int v26)] → W p l e ({ frames := 9, cells := 0, slots := 0, locals := 218 }) s m ([.ref h0, .int 2, .int v24, .int v25, .int v26] : List Value).toArray below meth c H locs 0 0 Q (F0 m 180 ls [.int x80, .int v25, .int t77, .int 3, .ref h0]) := by
                    intro x80 H locs ls qa_x80 qb_x80 hP hD hS hl
                    refine lv_iadd hx hb dX12_tryShelf_180 ?_
                    refine lv_topi (fun t82 et82 => ?_)
                    refine lv_iload hx hb dX12_tryShelf_181 (lv_at hl 6 rfl) ?_
                    have hPc := hP.sub (ws' := (wd_90cd99f9 h0 v0 r0 v1 v2 v3 v4 r1 r2 r3 r4 r5 r6 r7 v5 v6 r8 r9 r10 r11 v7 h1 r12 v8 v9 h2 r13 v10 v11 r14 v12 v13 r15 v14 w15 r16 x22 x23 h3 h4 r17 r18 r19 r20 v18 r21 r22 r23 v19 h1 g0 f20 h2 g1 f21 h3 g2 fn74 h4 g3 fn73)) [0, 1, 2, 3, 4] rfl
                    have hDc := hD.sub (ws' := (wd_90cd99f9 h0 v0 r0 v1 v2 v3 v4 r1 r2 r3 r4 r5 r6 r7 v5 v6 r8 r9 r10 r11 v7 h1 r12 v8 v9 h2 r13 v10 v11 r14 v12 v13 r15 v14 w15 r16 x22 x23 h3 h4 r17 r18 r19 r20 v18 r21 r22 r23 v19 h1 g0 f20 h2 g1 f21 h3 g2 fn74 h4 g3 fn73)) [0, 1, 2, 3, 4] (by decide) rfl
                    have hKc := hK.sub (tys' := [(g0, .int), (g1, .int), (g2, .int), (g3, .int)]) [0, 1, 2, 3] rfl
                    have hFc := va_free (wc := (wd_90cd99f9 h0 v0 r0 v1 v2 v3 v4 r1 r2 r3 r4 r5 r6 r7 v5 v6 r8 r9 r10 r11 v7 h1 r12 v8 v9 h2 r13 v10 v11 r14 v12 v13 r15 v14 w15 r16 x22 x23 h3 h4 r17 r18 r19 r20 v18 r21 r22 r23 v19 h1 g0 f20 h2 g1 f21 h3 g2 fn74 h4 g3 fn73)) hD hS hA [0, 1, 2, 3, 4] rfl
                    refine va_callv (va_runV (As := [.int 3, .int t77, .int t82, .int v26]) (rest := []) ⟨hx, hb, hml, hown, hts⟩ (k_X12_tryShelf_5 l dC dI h0 h1 h2 h3 h4 v0 r0 v1 v2 v3 v4 r1 r2 r3 r4 r5 r6 r7 v5 v6 r8 r9 r10 r11 v7 r12 v8 v9 r13 v10 v11 r14 v12 v13 r15 v14 w15 r16 x22 x23 r17 r18 r19 r20 v18 r21 r22 r23 v19 g0 f20 g1 f21 g2 fn74 g3 fn73 t77 t82 v26 ⟨i_v1a, i_v1b⟩ ⟨i_v5a, i_v5b⟩ ⟨i_v6a, i_v6b⟩ ⟨i_v7a, i_v7b⟩ ⟨i_v8a, i_v8b⟩ ⟨i_v9a, i_v9b⟩ ⟨i_v10a, i_v10b⟩ ⟨i_v14a, i_v14b⟩ ⟨i_v18a, i_v18b⟩ ⟨i_v19a, i_v19b⟩ ⟨i_v26a, i_v26b⟩ ia_f20 ia_f21 H.size) (cwV 4 hts g_X12_tryShelf_6_4 rfl rfl rfl (by decide +kernel) ⟨Nat.le_of_ble_eq_true rfl, Nat.le_of_ble_eq_true rfl⟩) (pv_PV12 hPc hKc hDc (q0 := 0) rfl) rfl rfl hl.1 rfl (lv_room (Nat.le_of_ble_eq_true rfl)) dX12_tryShelf_183 ⟨Nat.le_of_ble_eq_true rfl, Nat.le_of_ble_eq_true rfl⟩) hS (fun q _ h => hFc q h) hFc (fun u t H1 locs ht hvm hwra83 hB hz1 hk1 hS => ?_)
                    obtain ⟨x84, x85, fn86, fn87, hP1, hK1, hD1⟩ := hB
                    rw [ht] at hP1
                    obtain ⟨hP2, hD2⟩ := va_join (wr := []) (w1 := (wd_90cd99f9 h0 v0 r0 v1 v2 v3 v4 r1 r2 r3 r4 r5 r6 r7 v5 v6 r8 r9 r10 r11 v7 h1 r12 v8 v9 h2 r13 v10 v11 r14 v12 v13 r15 v14 w15 r16 x84 x85 h3 h4 r17 r18 r19 r20 v18 r21 r22 r23 v19 h1 g0 f20 h2 g1 f21 h3 g2 fn86 h4 g3 fn87)) hP hD [0, 1, 2, 3, 4] [] rfl rfl (by decide) (by decide) hk1 hFc hP1 hD1
                    clear hP hD hPc hDc hKc hFc hP1 hK1 hD1 hk1 hz1
                    generalize H1 = H at hP2 hS ⊢
                    have hP : va_P (dC, dI) vwCl (wd_90cd99f9 h0 v0 r0 v1 v2 v3 v4 r1 r2 r3 r4 r5 r6 r7 v5 v6 r8 r9 r10 r11 v7 h1 r12 v8 v9 h2 r13 v10 v11 r14 v12 v13 r15 v14 w15 r16 x84 x85 h3 h4 r17 r18 r19 r20 v18 r21 r22 r23 v19 h1 g0 f20 h2 g1 f21 h3 g2 fn86 h4 g3 fn87) H := hP2
                    have hD : va_D A (wd_90cd99f9 h0 v0 r0 v1 v2 v3 v4 r1 r2 r3 r4 r5 r6 r7 v5 v6 r8 r9 r10 r11 v7 h1 r12 v8 v9 h2 r13 v10 v11 r14 v12 v13 r15 v14 w15 r16 x84 x85 h3 h4 r17 r18 r19 r20 v18 r21 r22 r23 v19 h1 g0 f20 h2 g1 f21 h3 g2 fn86 h4 g3 fn87) := hD2
                    clear hP2 hD2
                    refine lv_aload_n hx hb dX12_tryShelf_186 rfl (lv_at hl 2 rfl) ?_
                    refine va_get (D := (dC, dI)) (ci := 12) (v := .ref h4) (C := RX12) (T := TX12) (N := 48) hx hb hts (fun _ h => List.mem_cons_of_mem _ (List.mem_append_right _ h)) hown hK hP 0 rfl rfl 38 (by decide) (hts (.fieldLink RX12 77 "LeftArgumentsModel" "room" "[I") (List.mem_cons_of_mem _ (List.mem_append_left _ (List.mem_of_getElem? (i := 31) rfl)))) (fun _ h9 => h9) rfl dX12_tryShelf_187 ?_
                    refine lv_iload hx hb dX12_tryShelf_190 (lv_at hl 0 rfl) ?_
                    refine lv_dup2_11 hx hb dX12_tryShelf_192 rfl rfl ?_
                    refine va_iald hx hb hK hP 4 3 rfl rfl (vp_in_iff.mpr ⟨by omega, by omega⟩) dX12_tryShelf_193 ?_
                    refine lv_topi (fun t88 et88 => ?_)
                    refine lv_aload_n hx hb dX12_tryShelf_194 rfl (lv_at hl 2 rfl) ?_
                    refine lv_iload_n hx hb dX12_tryShelf_195 rfl (lv_at hl 3 rfl) ?_
                    refine lv_iconst (v := 0) hx hb dX12_tryShelf_196 (by decide) ?_
                    have hPc := hP.sub (ws' := (wd_5013416a h0 v0 r0 v1 v2 v3 v4 r1 r2 r3 r4 r5 r6 r7 v5 v6 r8 r9 r10 r11 v7 h1 r12 v8 v9 h2 r13 v10 v11 r14 v12 v13 r15 v14 w15 r16 x84 x85 h3 h4 r17 r18 r19 r20 v18 r21 r22 r23 v19 h2 g1 f21)) [0, 2] rfl
                    have hDc := hD.sub (ws' := (wd_5013416a h0 v0 r0 v1 v2 v3 v4 r1 r2 r3 r4 r5 r6 r7 v5 v6 r8 r9 r10 r11 v7 h1 r12 v8 v9 h2 r13 v10 v11 r14 v12 v13 r15 v14 w15 r16 x84 x85 h3 h4 r17 r18 r19 r20 v18 r21 r22 r23 v19 h2 g1 f21)) [0, 2] (by decide) rfl
                    have hKc := hK.sub (tys' := [(g1, .int)]) [1] rfl
                    have hFc := va_free (wc := (wd_5013416a h0 v0 r0 v1 v2 v3 v4 r1 r2 r3 r4 r5 r6 r7 v5 v6 r8 r9 r10 r11 v7 h1 r12 v8 v9 h2 r13 v10 v11 r14 v12 v13 r15 v14 w15 r16 x84 x85 h3 h4 r17 r18 r19 r20 v18 r21 r22 r23 v19 h2 g1 f21)) hD hS hA [0, 2] rfl
                    refine va_calli (va_runV (As := [.int 2, .int 0]) (rest := [.int t88, .int x21, .ref h4]) ⟨hx, hb, hml, hown, hts⟩ (k_X12_of_3 l dC dI h0 h2 v0 r0 v1 v2 v3 v4 r1 r2 r3 r4 r5 r6 r7 v5 v6 r8 r9 r10 r11 v7 h1 r12 v8 v9 r13 v10 v11 r14 v12 v13 r15 v14 w15 r16 x84 x85 h3 h4 r17 r18 r19 r20 v18 r21 r22 r23 v19 g1 f21 2 ⟨i_v1a, i_v1b⟩ ⟨i_v5a, i_v5b⟩ ⟨i_v6a, i_v6b⟩ ⟨i_v7a, i_v7b⟩ ⟨i_v8a, i_v8b⟩ ⟨i_v9a, i_v9b⟩ ⟨i_v10a, i_v10b⟩ ⟨i_v14a, i_v14b⟩ ⟨i_v18a, i_v18b⟩ ⟨i_v19a, i_v19b⟩ ⟨by decide, by decide⟩ ia_f21.1 H.size) (cwV 2 hts g_X12_tryShelf_6_2 rfl rfl rfl (by decide +kernel) ⟨Nat.le_of_ble_eq_true rfl, Nat.le_of_ble_eq_true rfl⟩) (pv_PV12 hPc hKc hDc (q0 := 0) rfl) rfl rfl hl.1 rfl (lv_room (Nat.le_of_ble_eq_true rfl)) dX12_tryShelf_197 ⟨Nat.le_of_ble_eq_true rfl, Nat.le_of_ble_eq_true rfl⟩) hS (fun q _ h => hFc q h) hFc (fun ra89 u t H1 locs ht hvm hwra89 hB hz1 hk1 hS => ?_)
                    try rw [hwra89] at hB
                    have hkra89_0 : ((2 : Int32)).toInt = 2 := by decide
                    obtain ⟨pt0_ra89, pt1_ra89, pt2_ra89, hP1, hK1, hD1⟩ := hB
                    rw [ht] at hP1
                    obtain ⟨hP2, hD2⟩ := va_join (wr := (wd_20b67a68 h1 g0 f20 h3 g2 fn86 h4 g3 fn87)) (w1 := (wd_5013416a h0 v0 r0 v1 v2 v3 v4 r1 r2 r3 r4 r5 r6 r7 v5 v6 r8 r9 r10 r11 v7 h1 r12 v8 v9 h2 r13 v10 v11 r14 v12 v13 r15 v14 w15 r16 x84 x85 h3 h4 r17 r18 r19 r20 v18 r21 r22 r23 v19 h2 g1 f21)) hP hD [0, 2] [1, 3, 4] rfl rfl (by decide) (by decide) hk1 hFc hP1 hD1
                    clear hP hD hPc hDc hKc hFc hP1 hK1 hD1 hk1 hz1
                    generalize H1 = H at hP2 hS ⊢
                    have hP := hP2.sub (ws' := (wd_90cd99f9 h0 v0 r0 v1 v2 v3 v4 r1 r2 r3 r4 r5 r6 r7 v5 v6 r8 r9 r10 r11 v7 h1 r12 v8 v9 h2 r13 v10 v11 r14 v12 v13 r15 v14 w15 r16 x84 x85 h3 h4 r17 r18 r19 r20 v18 r21 r22 r23 v19 h1 g0 f20 h2 g1 f21 h3 g2 fn86 h4 g3 fn87)) [3, 0, 4, 1, 2] rfl
                    have hD := hD2.sub (ws' := (wd_90cd99f9 h0 v0 r0 v1 v2 v3 v4 r1 r2 r3 r4 r5 r6 r7 v5 v6 r8 r9 r10 r11 v7 h1 r12 v8 v9 h2 r13 v10 v11 r14 v12 v13 r15 v14 w15 r16 x84 x85 h3 h4 r17 r18 r19 r20 v18 r21 r22 r23 v19 h1 g0 f20 h2 g1 f21 h3 g2 fn86 h4 g3 fn87)) [3, 0, 4, 1, 2] (by decide) rfl
                    clear hP2 hD2
                    refine lv_isub hx hb dX12_tryShelf_200 ?_
                    refine lv_topi (fun t90 et90 => ?_)
                    refine va_iast hx hb hK hP hD hS 4 3 rfl rfl (vp_in_iff.mpr ⟨by omega, by omega⟩) dX12_tryShelf_201 (fun H locs hP hD hS => ?_)
                    obtain ⟨fn91, efn91⟩ : ∃ g : Nat → Int32, g = upd fn87 (Int32.toNatClampNeg x21) t90 := ⟨_, rfl⟩
                    rw [← efn91] at hP hD
                    have hP : va_P (dC, dI) vwCl (wd_90cd99f9 h0 v0 r0 v1 v2 v3 v4 r1 r2 r3 r4 r5 r6 r7 v5 v6 r8 r9 r10 r11 v7 h1 r12 v8 v9 h2 r13 v10 v11 r14 v12 v13 r15 v14 w15 r16 x84 x85 h3 h4 r17 r18 r19 r20 v18 r21 r22 r23 v19 h1 g0 f20 h2 g1 f21 h3 g2 fn86 h4 g3 fn91) H := hP
                    have hD : va_D A (wd_90cd99f9 h0 v0 r0 v1 v2 v3 v4 r1 r2 r3 r4 r5 r6 r7 v5 v6 r8 r9 r10 r11 v7 h1 r12 v8 v9 h2 r13 v10 v11 r14 v12 v13 r15 v14 w15 r16 x84 x85 h3 h4 r17 r18 r19 r20 v18 r21 r22 r23 v19 h1 g0 f20 h2 g1 f21 h3 g2 fn86 h4 g3 fn91) := hD
                    exact hJ37 x84 x85 fn86 fn91 H locs ls hP hD hS (lv_sub hl [0, 1, 2, 3, 4, 5, 6] rfl)
                  refine lv_icmp_ne (tgt := 179) hx hb dX12_tryShelf_172 (by decide) (fun c92 => ?_) (fun c92 => ?_)
                  · skip
                    have fc92 : ¬ (t78.toInt = ra79.toInt) := fun h9 => c92 (Int32.toInt_inj.mp h9)
                    have r1c92 := Int32.toInt_lt t78
                    have r2c92 := Int32.toInt_lt ra79
                    have r3c92 := Int32.le_toInt t78
                    have r4c92 := Int32.le_toInt ra79
                    refine lv_iconst (v := 0) hx hb dX12_tryShelf_179 (by decide) ?_
                    exact hJ81 0 H locs ls (by decide) (by decide) hP hD hS (lv_sub hl [0, 1, 2, 3, 4, 5, 6] rfl)
                  · skip
                    have fc92 : t78.toInt = ra79.toInt := congrArg Int32.toInt c92
                    have r1c92 := Int32.toInt_lt t78
                    have r2c92 := Int32.toInt_lt ra79
                    have r3c92 := Int32.le_toInt t78
                    have r4c92 := Int32.le_toInt ra79
                    refine lv_iconst (v := 1) hx hb dX12_tryShelf_175 (by decide) ?_
                    refine lv_goto (tgt := 180) hx hb dX12_tryShelf_176 (by decide) ?_
                    exact hJ81 1 H locs ls (by decide) (by decide) hP hD hS (lv_sub hl [0, 1, 2, 3, 4, 5, 6] rfl)
        exact hL31 _ 0 v16 v17 f22 f23 H locs ls (by decide) (by decide) (Nat.lt_succ_self _) hP hD hS (lv_sub hl [0, 1, 2, 3, 4, 5, 6] rfl)
      refine lv_if_eq (tgt := 68) hx hb dX12_tryShelf_56 (by decide) (fun c93 => ?_) (fun c93 => ?_)
      · skip
        have fc93 : v26.toInt = 0 := congrArg Int32.toInt c93
        refine lv_bipush (v := 8) hx hb dX12_tryShelf_68 (by decide) ?_
        exact hJ5 8 H locs ls (by decide) (by decide) hP hD hS (lv_sub hl [0, 1, 2, 3, 4] rfl)
      · skip
        have fc93 : ¬ (v26.toInt = 0) := fun h9 => c93 (Int32.toInt_inj.mp h9)
        refine lv_aload_n hx hb dX12_tryShelf_59 rfl (lv_at hl 0 rfl) ?_
        refine va_get (D := (dC, dI)) (ci := 12) (v := .ref h1) (C := RX12) (T := TX12) (N := 48) hx hb hts (fun _ h => List.mem_cons_of_mem _ (List.mem_append_right _ h)) hown hK hP 0 rfl rfl 20 (by decide) (hts (.fieldLink RX12 46 "LeftArgumentsModel" "rule" "[I") (List.mem_cons_of_mem _ (List.mem_append_left _ (List.mem_of_getElem? (i := 37) rfl)))) (fun _ h9 => h9) rfl dX12_tryShelf_60 ?_
        refine lv_iconst (v := 1) hx hb dX12_tryShelf_63 (by decide) ?_
        refine va_iald hx hb hK hP 1 0 rfl rfl (pv_c (x := 1) (n := 4) (by decide)) dX12_tryShelf_64 ?_
        refine lv_topi (fun t94 et94 => ?_)
        have gat94 : 0 ≤ t94.toInt ∧ t94.toInt ≤ 5 := by rw [et94]; exact ia_f20.1
        refine lv_goto (tgt := 70) hx hb dX12_tryShelf_65 (by decide) ?_
        exact hJ5 t94 H locs ls (by first | omega | decide) (by first | omega | decide) hP hD hS (lv_sub hl [0, 1, 2, 3, 4] rfl)
    · skip
      have fc3 : ra2.toInt = 0 := congrArg Int32.toInt c3
      have q0wra2 := wra2 (by omega)
      refine lv_aload_n hx hb dX12_tryShelf_42 rfl (lv_at hl 0 rfl) ?_
      refine lv_iload_n hx hb dX12_tryShelf_43 rfl (lv_at hl 1 rfl) ?_
      refine lv_iconst (v := 1) hx hb dX12_tryShelf_44 (by decide) ?_
      refine lv_iadd hx hb dX12_tryShelf_45 ?_
      refine lv_topi (fun tv95 etv95 => ?_)
      obtain rfl : tv95 = (3 : Int32) := etv95.trans (by first | rfl | decide)
      refine lv_iload_n hx hb dX12_tryShelf_46 rfl (lv_at hl 2 rfl) ?_
      refine lv_iload_n hx hb dX12_tryShelf_47 rfl (lv_at hl 3 rfl) ?_
      refine lv_iload hx hb dX12_tryShelf_48 (lv_at hl 4 rfl) ?_
      have hPc := hP.sub (ws' := (wd_90cd99f9 h0 v0 r0 v1 v2 v3 v4 r1 r2 r3 r4 r5 r6 r7 v5 v6 r8 r9 r10 r11 v7 h1 r12 v8 v9 h2 r13 v10 v11 r14 v12 v13 r15 v14 w15 r16 v16 v17 h3 h4 r17 r18 r19 r20 v18 r21 r22 r23 v19 h1 g0 f20 h2 g1 f21 h3 g2 f22 h4 g3 f23)) [0, 1, 2, 3, 4] rfl
      have hDc := hD.sub (ws' := (wd_90cd99f9 h0 v0 r0 v1 v2 v3 v4 r1 r2 r3 r4 r5 r6 r7 v5 v6 r8 r9 r10 r11 v7 h1 r12 v8 v9 h2 r13 v10 v11 r14 v12 v13 r15 v14 w15 r16 v16 v17 h3 h4 r17 r18 r19 r20 v18 r21 r22 r23 v19 h1 g0 f20 h2 g1 f21 h3 g2 f22 h4 g3 f23)) [0, 1, 2, 3, 4] (by decide) rfl
      have hKc := hK.sub (tys' := [(g0, .int), (g1, .int), (g2, .int), (g3, .int)]) [0, 1, 2, 3] rfl
      have hFc := va_free (wc := (wd_90cd99f9 h0 v0 r0 v1 v2 v3 v4 r1 r2 r3 r4 r5 r6 r7 v5 v6 r8 r9 r10 r11 v7 h1 r12 v8 v9 h2 r13 v10 v11 r14 v12 v13 r15 v14 w15 r16 v16 v17 h3 h4 r17 r18 r19 r20 v18 r21 r22 r23 v19 h1 g0 f20 h2 g1 f21 h3 g2 f22 h4 g3 f23)) hD hS hA [0, 1, 2, 3, 4] rfl
      refine va_callv (va_runV (As := [.int 3, .int v24, .int v25, .int v26]) (rest := []) ⟨hx, hb, hml, hown, hts⟩ (k_X12_tryShelf_5 l dC dI h0 h1 h2 h3 h4 v0 r0 v1 v2 v3 v4 r1 r2 r3 r4 r5 r6 r7 v5 v6 r8 r9 r10 r11 v7 r12 v8 v9 r13 v10 v11 r14 v12 v13 r15 v14 w15 r16 v16 v17 r17 r18 r19 r20 v18 r21 r22 r23 v19 g0 f20 g1 f21 g2 f22 g3 f23 v24 v25 v26 ⟨i_v1a, i_v1b⟩ ⟨i_v5a, i_v5b⟩ ⟨i_v6a, i_v6b⟩ ⟨i_v7a, i_v7b⟩ ⟨i_v8a, i_v8b⟩ ⟨i_v9a, i_v9b⟩ ⟨i_v10a, i_v10b⟩ ⟨i_v14a, i_v14b⟩ ⟨i_v18a, i_v18b⟩ ⟨i_v19a, i_v19b⟩ ⟨i_v26a, i_v26b⟩ ia_f20 ia_f21 H.size) (cwV 4 hts g_X12_tryShelf_6_4 rfl rfl rfl (by decide +kernel) ⟨Nat.le_of_ble_eq_true rfl, Nat.le_of_ble_eq_true rfl⟩) (pv_PV12 hPc hKc hDc (q0 := 0) rfl) rfl rfl hl.1 rfl (lv_room (Nat.le_of_ble_eq_true rfl)) dX12_tryShelf_50 ⟨Nat.le_of_ble_eq_true rfl, Nat.le_of_ble_eq_true rfl⟩) hS (fun q _ h => hFc q h) hFc (fun u t H1 locs ht hvm hwra96 hB hz1 hk1 hS => ?_)
      obtain ⟨x97, x98, fn99, fn100, hP1, hK1, hD1⟩ := hB
      rw [ht] at hP1
      obtain ⟨hP2, hD2⟩ := va_join (wr := []) (w1 := (wd_90cd99f9 h0 v0 r0 v1 v2 v3 v4 r1 r2 r3 r4 r5 r6 r7 v5 v6 r8 r9 r10 r11 v7 h1 r12 v8 v9 h2 r13 v10 v11 r14 v12 v13 r15 v14 w15 r16 x97 x98 h3 h4 r17 r18 r19 r20 v18 r21 r22 r23 v19 h1 g0 f20 h2 g1 f21 h3 g2 fn99 h4 g3 fn100)) hP hD [0, 1, 2, 3, 4] [] rfl rfl (by decide) (by decide) hk1 hFc hP1 hD1
      clear hP hD hPc hDc hKc hFc hP1 hK1 hD1 hk1 hz1
      generalize H1 = H at hP2 hS ⊢
      have hP : va_P (dC, dI) vwCl (wd_90cd99f9 h0 v0 r0 v1 v2 v3 v4 r1 r2 r3 r4 r5 r6 r7 v5 v6 r8 r9 r10 r11 v7 h1 r12 v8 v9 h2 r13 v10 v11 r14 v12 v13 r15 v14 w15 r16 x97 x98 h3 h4 r17 r18 r19 r20 v18 r21 r22 r23 v19 h1 g0 f20 h2 g1 f21 h3 g2 fn99 h4 g3 fn100) H := hP2
      have hD : va_D A (wd_90cd99f9 h0 v0 r0 v1 v2 v3 v4 r1 r2 r3 r4 r5 r6 r7 v5 v6 r8 r9 r10 r11 v7 h1 r12 v8 v9 h2 r13 v10 v11 r14 v12 v13 r15 v14 w15 r16 x97 x98 h3 h4 r17 r18 r19 r20 v18 r21 r22 r23 v19 h1 g0 f20 h2 g1 f21 h3 g2 fn99 h4 g3 fn100) := hD2
      clear hP2 hD2
      subst hQ
      have hP9 := hP.sub (ws' := (wd_90cd99f9 h0 v0 r0 v1 v2 v3 v4 r1 r2 r3 r4 r5 r6 r7 v5 v6 r8 r9 r10 r11 v7 h1 r12 v8 v9 h2 r13 v10 v11 r14 v12 v13 r15 v14 w15 r16 x97 x98 h3 h4 r17 r18 r19 r20 v18 r21 r22 r23 v19 h1 g0 f20 h2 g1 f21 h3 g2 fn99 h4 g3 fn100)) [0, 1, 2, 3, 4] rfl
      have hD9 := hD.sub (ws' := (wd_90cd99f9 h0 v0 r0 v1 v2 v3 v4 r1 r2 r3 r4 r5 r6 r7 v5 v6 r8 r9 r10 r11 v7 h1 r12 v8 v9 h2 r13 v10 v11 r14 v12 v13 r15 v14 w15 r16 x97 x98 h3 h4 r17 r18 r19 r20 v18 r21 r22 r23 v19 h1 g0 f20 h2 g1 f21 h3 g2 fn99 h4 g3 fn100)) [0, 1, 2, 3, 4] (by decide) rfl
      have hK9 := hK.sub (tys' := []) [] rfl
      exact W.vret hx hb hr (fun t ht hW => ⟨⟨(), rfl, trivial, ⟨x97, x98, fn99, fn100, by rw [ht]; exact hP9, va_K.moved hW.alike hK9, hD9⟩⟩, hS.F ht⟩) hS.2.2 dX12_tryShelf_53
  · skip
    have fc1 : ¬ (v16.toInt = (-1)) := fun h9 => c1 (Int32.toInt_inj.mp h9)
    refine lv_iload_n hx hb dX12_tryShelf_8 rfl (lv_at hl 3 rfl) ?_
    refine lv_aload_n hx hb dX12_tryShelf_9 rfl (lv_at hl 0 rfl) ?_
    refine va_get (D := (dC, dI)) (ci := 12) (v := .int v17) (C := RX12) (T := TX12) (N := 48) hx hb hts (fun _ h => List.mem_cons_of_mem _ (List.mem_append_right _ h)) hown hK hP 0 rfl rfl 36 (by decide) (hts (.fieldLink RX12 391 "LeftArgumentsModel" "bestMany" "I") (List.mem_cons_of_mem _ (List.mem_append_left _ (List.mem_of_getElem? (i := 33) rfl)))) (fun _ h9 => h9) rfl dX12_tryShelf_10 ?_
    refine lv_icmp_lt (tgt := 17) hx hb dX12_tryShelf_13 (by decide) (fun c101 => ?_) (fun c101 => ?_)
    · skip
      have fc101 : v25.toInt < v17.toInt := Int32.lt_iff_toInt_lt.mp c101
      have r1c101 := Int32.toInt_lt v25
      have r2c101 := Int32.toInt_lt v17
      have r3c101 := Int32.le_toInt v25
      have r4c101 := Int32.le_toInt v17
      refine lv_iload_n hx hb dX12_tryShelf_17 rfl (lv_at hl 1 rfl) ?_
      refine lv_bipush (v := 8) hx hb dX12_tryShelf_18 (by decide) ?_
      refine lv_icmp_ne (tgt := 34) hx hb dX12_tryShelf_20 (by decide) (fun _ => ?_) (fun c => absurd c (by decide))
      refine lv_aload_n hx hb dX12_tryShelf_34 rfl (lv_at hl 0 rfl) ?_
      refine lv_iload_n hx hb dX12_tryShelf_35 rfl (lv_at hl 1 rfl) ?_
      have hPc := hP.sub (ws' := (wd_5013416a h0 v0 r0 v1 v2 v3 v4 r1 r2 r3 r4 r5 r6 r7 v5 v6 r8 r9 r10 r11 v7 h1 r12 v8 v9 h2 r13 v10 v11 r14 v12 v13 r15 v14 w15 r16 v16 v17 h3 h4 r17 r18 r19 r20 v18 r21 r22 r23 v19 h2 g1 f21)) [0, 2] rfl
      have hDc := hD.sub (ws' := (wd_5013416a h0 v0 r0 v1 v2 v3 v4 r1 r2 r3 r4 r5 r6 r7 v5 v6 r8 r9 r10 r11 v7 h1 r12 v8 v9 h2 r13 v10 v11 r14 v12 v13 r15 v14 w15 r16 v16 v17 h3 h4 r17 r18 r19 r20 v18 r21 r22 r23 v19 h2 g1 f21)) [0, 2] (by decide) rfl
      have hKc := hK.sub (tys' := [(g1, .int)]) [1] rfl
      have hFc := va_free (wc := (wd_5013416a h0 v0 r0 v1 v2 v3 v4 r1 r2 r3 r4 r5 r6 r7 v5 v6 r8 r9 r10 r11 v7 h1 r12 v8 v9 h2 r13 v10 v11 r14 v12 v13 r15 v14 w15 r16 v16 v17 h3 h4 r17 r18 r19 r20 v18 r21 r22 r23 v19 h2 g1 f21)) hD hS hA [0, 2] rfl
      refine va_calli (va_runV (As := [.int 2]) (rest := []) ⟨hx, hb, hml, hown, hts⟩ (k_X12_isThere l dC dI h0 h2 v0 r0 v1 v2 v3 v4 r1 r2 r3 r4 r5 r6 r7 v5 v6 r8 r9 r10 r11 v7 h1 r12 v8 v9 r13 v10 v11 r14 v12 v13 r15 v14 w15 r16 v16 v17 h3 h4 r17 r18 r19 r20 v18 r21 r22 r23 v19 g1 f21 2 ⟨i_v1a, i_v1b⟩ ⟨i_v5a, i_v5b⟩ ⟨i_v6a, i_v6b⟩ ⟨i_v7a, i_v7b⟩ ⟨i_v8a, i_v8b⟩ ⟨i_v9a, i_v9b⟩ ⟨i_v10a, i_v10b⟩ ⟨i_v14a, i_v14b⟩ ⟨i_v18a, i_v18b⟩ ⟨i_v19a, i_v19b⟩ ia_f21.1 H.size) (cwV 1 hts g_X12_tryShelf_6_0 rfl rfl rfl (by decide +kernel) ⟨Nat.le_of_ble_eq_true rfl, Nat.le_of_ble_eq_true rfl⟩) (pv_PV12 hPc hKc hDc (q0 := 0) rfl) rfl rfl hl.1 rfl (lv_room (Nat.le_of_ble_eq_true rfl)) dX12_tryShelf_36 ⟨Nat.le_of_ble_eq_true rfl, Nat.le_of_ble_eq_true rfl⟩) hS (fun q _ h => hFc q h) hFc (fun ra102 u t H1 locs ht hvm hwra102 hB hz1 hk1 hS => ?_)
      try rw [hwra102] at hB
      have hkra102_0 : ((2 : Int32)).toInt = 2 := by decide
      obtain ⟨pt0_ra102, pt1_ra102, pt2_ra102, pt3_ra102, pt4_ra102, pt5_ra102, hP1, hK1, hD1⟩ := hB
      rw [ht] at hP1
      obtain ⟨hP2, hD2⟩ := va_join (wr := (wd_20b67a68 h1 g0 f20 h3 g2 f22 h4 g3 f23)) (w1 := (wd_5013416a h0 v0 r0 v1 v2 v3 v4 r1 r2 r3 r4 r5 r6 r7 v5 v6 r8 r9 r10 r11 v7 h1 r12 v8 v9 h2 r13 v10 v11 r14 v12 v13 r15 v14 w15 r16 v16 v17 h3 h4 r17 r18 r19 r20 v18 r21 r22 r23 v19 h2 g1 f21)) hP hD [0, 2] [1, 3, 4] rfl rfl (by decide) (by decide) hk1 hFc hP1 hD1
      clear hP hD hPc hDc hKc hFc hP1 hK1 hD1 hk1 hz1
      generalize H1 = H at hP2 hS ⊢
      have hP := hP2.sub (ws' := (wd_90cd99f9 h0 v0 r0 v1 v2 v3 v4 r1 r2 r3 r4 r5 r6 r7 v5 v6 r8 r9 r10 r11 v7 h1 r12 v8 v9 h2 r13 v10 v11 r14 v12 v13 r15 v14 w15 r16 v16 v17 h3 h4 r17 r18 r19 r20 v18 r21 r22 r23 v19 h1 g0 f20 h2 g1 f21 h3 g2 f22 h4 g3 f23)) [3, 0, 4, 1, 2] rfl
      have hD := hD2.sub (ws' := (wd_90cd99f9 h0 v0 r0 v1 v2 v3 v4 r1 r2 r3 r4 r5 r6 r7 v5 v6 r8 r9 r10 r11 v7 h1 r12 v8 v9 h2 r13 v10 v11 r14 v12 v13 r15 v14 w15 r16 v16 v17 h3 h4 r17 r18 r19 r20 v18 r21 r22 r23 v19 h1 g0 f20 h2 g1 f21 h3 g2 f22 h4 g3 f23)) [3, 0, 4, 1, 2] (by decide) rfl
      clear hP2 hD2
      have wra102 : ra102.toInt = 0 → ¬ f21 (pm_I 2 7) = 1 := fun h9 => pt5_ra102 h9 (by omega) (by omega)
      refine lv_if_ne (tgt := 54) hx hb dX12_tryShelf_39 (by decide) (fun c103 => ?_) (fun c103 => ?_)
      · skip
        have fc103 : ¬ (ra102.toInt = 0) := fun h9 => c103 (Int32.toInt_inj.mp h9)
        have q1pt4_ra102 := pt4_ra102 (by omega)
        refine lv_iload hx hb dX12_tryShelf_54 (lv_at hl 4 rfl) ?_
        have hJ105 : ∀ (x104 : Int32) (H : Heap) (locs : List Loc) (ls : Array Slot), 0 ≤ x104.toInt → x104.toInt ≤ 8 → va_P (dC, dI) vwCl (wd_90cd99f9 h0 v0 r0 v1 v2 v3 v4 r1 r2 r3 r4 r5 r6 r7 v5 v6 r8 r9 r10 r11 v7 h1 r12 v8 v9 h2 r13 v10 v11 r14 v12 v13 r15 v14 w15 r16 v16 v17 h3 h4 r17 r18 r19 r20 v18 r21 r22 r23 v19 h1 g0 f20 h2 g1 f21 h3 g2 f22 h4 g3 f23) H → va_D A (wd_90cd99f9 h0 v0 r0 v1 v2 v3 v4 r1 r2 r3 r4 r5 r6 r7 v5 v6 r8 r9 r10 r11 v7 h1 r12 v8 v9 h2 r13 v10 v11 r14 v12 v13 r15 v14 w15 r16 v16 v17 h3 h4 r17 r18 r19 r20 v18 r21 r22 r23 v19 h1 g0 f20 h2 g1 f21 h3 g2 f22 h4 g3 f23) → va_S A s.heap H locs → lv_has ls 7 [(0, .ref h0), (1, .int 2), (2, .int v24), (3, .int v25), (4, .int v26)] → W p l e ({ frames := 9, cells := 0, slots := 0, locals := 218 }) s m ([.ref h0, .int 2, .int v24, .int v25, .int v26] : List Value).toArray below meth c H locs 0 0 Q (F0 m 70 ls [.int x104]) := by
          intro x104 H locs ls qa_x104 qb_x104 hP hD hS hl
          refine lv_istore (lv' := [(5, .int x104), (0, .ref h0), (1, .int 2), (2, .int v24), (3, .int v25), (4, .int v26)]) hx hb dX12_tryShelf_70 hl (by decide) rfl (fun ls hl => ?_)
          refine lv_iconst (v := 0) hx hb dX12_tryShelf_72 (by decide) ?_
          refine lv_istore (lv' := [(6, .int 0), (5, .int x104), (0, .ref h0), (1, .int 2), (2, .int v24), (3, .int v25), (4, .int v26)]) hx hb dX12_tryShelf_73 hl (by decide) rfl (fun ls hl => ?_)
          have hL131 : ∀ (n9 : Nat), ∀ (x121 : Int32) (x122 : Int32) (x123 : Int32) (fn124 : Nat → Int32) (fn125 : Nat → Int32) (H : Heap) (locs : List Loc) (ls : Array Slot), 0 ≤ x121.toInt → x121.toInt ≤ 8 → (8 - x121.toInt).toNat < n9 → va_P (dC, dI) vwCl (wd_90cd99f9 h0 v0 r0 v1 v2 v3 v4 r1 r2 r3 r4 r5 r6 r7 v5 v6 r8 r9 r10 r11 v7 h1 r12 v8 v9 h2 r13 v10 v11 r14 v12 v13 r15 v14 w15 r16 x122 x123 h3 h4 r17 r18 r19 r20 v18 r21 r22 r23 v19 h1 g0 f20 h2 g1 f21 h3 g2 fn124 h4 g3 fn125) H → va_D A (wd_90cd99f9 h0 v0 r0 v1 v2 v3 v4 r1 r2 r3 r4 r5 r6 r7 v5 v6 r8 r9 r10 r11 v7 h1 r12 v8 v9 h2 r13 v10 v11 r14 v12 v13 r15 v14 w15 r16 x122 x123 h3 h4 r17 r18 r19 r20 v18 r21 r22 r23 v19 h1 g0 f20 h2 g1 f21 h3 g2 fn124 h4 g3 fn125) → va_S A s.heap H locs → lv_has ls 7 [(6, .int x121), (5, .int x104), (0, .ref h0), (1, .int 2), (2, .int v24), (3, .int v25), (4, .int v26)] → W p l e ({ frames := 9, cells := 0, slots := 0, locals := 218 }) s m ([.ref h0, .int 2, .int v24, .int v25, .int v26] : List Value).toArray below meth c H locs 0 0 Q (F0 m 75 ls []) := by
            intro n9
            induction n9 with
            | zero => intro x121 x122 x123 fn124 fn125 H locs ls qa_x121 qb_x121 hm9 hP hD hS hl; exact absurd hm9 (Nat.not_lt_zero _)
            | succ n9 ih_hL131 =>
              intro x121 x122 x123 fn124 fn125 H locs ls qa_x121 qb_x121 hm9 hP hD hS hl
              refine lv_iload hx hb dX12_tryShelf_75 (lv_at hl 0 rfl) ?_
              refine lv_iload hx hb dX12_tryShelf_77 (lv_at hl 1 rfl) ?_
              refine lv_icmp_ge (tgt := 208) hx hb dX12_tryShelf_79 (by decide) (fun c132 => ?_) (fun c132 => ?_)
              · skip
                have fc132 : x104.toInt ≤ x121.toInt := Int32.le_iff_toInt_le.mp c132
                have r1c132 := Int32.toInt_lt x121
                have r2c132 := Int32.toInt_lt x104
                have r3c132 := Int32.le_toInt x121
                have r4c132 := Int32.le_toInt x104
                subst hQ
                have hP9 := hP.sub (ws' := (wd_90cd99f9 h0 v0 r0 v1 v2 v3 v4 r1 r2 r3 r4 r5 r6 r7 v5 v6 r8 r9 r10 r11 v7 h1 r12 v8 v9 h2 r13 v10 v11 r14 v12 v13 r15 v14 w15 r16 x122 x123 h3 h4 r17 r18 r19 r20 v18 r21 r22 r23 v19 h1 g0 f20 h2 g1 f21 h3 g2 fn124 h4 g3 fn125)) [0, 1, 2, 3, 4] rfl
                have hD9 := hD.sub (ws' := (wd_90cd99f9 h0 v0 r0 v1 v2 v3 v4 r1 r2 r3 r4 r5 r6 r7 v5 v6 r8 r9 r10 r11 v7 h1 r12 v8 v9 h2 r13 v10 v11 r14 v12 v13 r15 v14 w15 r16 x122 x123 h3 h4 r17 r18 r19 r20 v18 r21 r22 r23 v19 h1 g0 f20 h2 g1 f21 h3 g2 fn124 h4 g3 fn125)) [0, 1, 2, 3, 4] (by decide) rfl
                have hK9 := hK.sub (tys' := []) [] rfl
                exact W.vret hx hb hr (fun t ht hW => ⟨⟨(), rfl, trivial, ⟨x122, x123, fn124, fn125, by rw [ht]; exact hP9, va_K.moved hW.alike hK9, hD9⟩⟩, hS.F ht⟩) hS.2.2 dX12_tryShelf_208
              · skip
                have fc132 : ¬ (x104.toInt ≤ x121.toInt) := fun h9 => c132 (Int32.le_iff_toInt_le.mpr h9)
                have r1c132 := Int32.toInt_lt x121
                have r2c132 := Int32.toInt_lt x104
                have r3c132 := Int32.le_toInt x121
                have r4c132 := Int32.le_toInt x104
                refine lv_iload hx hb dX12_tryShelf_82 (lv_at hl 6 rfl) ?_
                have hJ137 : ∀ (x133 : Int32) (x134 : Int32) (fn135 : Nat → Int32) (fn136 : Nat → Int32) (H : Heap) (locs : List Loc) (ls : Array Slot), va_P (dC, dI) vwCl (wd_90cd99f9 h0 v0 r0 v1 v2 v3 v4 r1 r2 r3 r4 r5 r6 r7 v5 v6 r8 r9 r10 r11 v7 h1 r12 v8 v9 h2 r13 v10 v11 r14 v12 v13 r15 v14 w15 r16 x133 x134 h3 h4 r17 r18 r19 r20 v18 r21 r22 r23 v19 h1 g0 f20 h2 g1 f21 h3 g2 fn135 h4 g3 fn136) H → va_D A (wd_90cd99f9 h0 v0 r0 v1 v2 v3 v4 r1 r2 r3 r4 r5 r6 r7 v5 v6 r8 r9 r10 r11 v7 h1 r12 v8 v9 h2 r13 v10 v11 r14 v12 v13 r15 v14 w15 r16 x133 x134 h3 h4 r17 r18 r19 r20 v18 r21 r22 r23 v19 h1 g0 f20 h2 g1 f21 h3 g2 fn135 h4 g3 fn136) → va_S A s.heap H locs → lv_has ls 7 [(6, .int x121), (5, .int x104), (0, .ref h0), (1, .int 2), (2, .int v24), (3, .int v25), (4, .int v26)] → W p l e ({ frames := 9, cells := 0, slots := 0, locals := 218 }) s m ([.ref h0, .int 2, .int v24, .int v25, .int v26] : List Value).toArray below meth c H locs 0 0 Q (F0 m 202 ls []) := by
                  intro x133 x134 fn135 fn136 H locs ls hP hD hS hl
                  obtain ⟨t138, et138⟩ : ∃ y : Int32, y = x121 + 1 := ⟨_, rfl⟩
                  have gt138 : t138.toInt = x121.toInt + (1) := pv_add (a := x121.toInt) (b := (1)) et138 rfl (by decide) (by omega) (by omega)
                  refine lv_iinc (v := t138) (lv' := [(6, .int t138), (5, .int x104), (0, .ref h0), (1, .int 2), (2, .int v24), (3, .int v25), (4, .int v26)]) hx hb dX12_tryShelf_202 hl (k := 0) rfl (by rw [et138]; rfl) (by decide) rfl (fun ls hl => ?_)
                  refine lv_goto (tgt := 75) hx hb dX12_tryShelf_205 (by decide) ?_
                  exact ih_hL131 t138 x133 x134 fn135 fn136 H locs ls (by first | omega | decide) (by first | omega | decide) (by first | omega | (simp only [Int.toNat] at *; omega)) hP hD hS (lv_sub hl [0, 1, 2, 3, 4, 5, 6] rfl)
                refine lv_if_eq (tgt := 113) hx hb dX12_tryShelf_84 (by decide) (fun c139 => ?_) (fun c139 => ?_)
                · skip
                  have fc139 : v26.toInt = 0 := congrArg Int32.toInt c139
                  refine lv_aload_n hx hb dX12_tryShelf_113 rfl (lv_at hl 2 rfl) ?_
                  refine lv_iload_n hx hb dX12_tryShelf_114 rfl (lv_at hl 3 rfl) ?_
                  refine lv_iload hx hb dX12_tryShelf_115 (lv_at hl 0 rfl) ?_
                  have hPc := hP.sub (ws' := (wd_f4deda84 h0 v0 r0 v1 v2 v3 v4 r1 r2 r3 r4 r5 r6 r7 v5 v6 r8 r9 r10 r11 v7 h1 r12 v8 v9 h2 r13 v10 v11 r14 v12 v13 r15 v14 w15 r16 x122 x123 h3 h4 r17 r18 r19 r20 v18 r21 r22 r23 v19 h2 g1 f21 h3 g2 fn124)) [0, 2, 3] rfl
                  have hDc := hD.sub (ws' := (wd_f4deda84 h0 v0 r0 v1 v2 v3 v4 r1 r2 r3 r4 r5 r6 r7 v5 v6 r8 r9 r10 r11 v7 h1 r12 v8 v9 h2 r13 v10 v11 r14 v12 v13 r15 v14 w15 r16 x122 x123 h3 h4 r17 r18 r19 r20 v18 r21 r22 r23 v19 h2 g1 f21 h3 g2 fn124)) [0, 2, 3] (by decide) rfl
                  have hKc := hK.sub (tys' := [(g1, .int), (g2, .int)]) [1, 2] rfl
                  have hFc := va_free (wc := (wd_f4deda84 h0 v0 r0 v1 v2 v3 v4 r1 r2 r3 r4 r5 r6 r7 v5 v6 r8 r9 r10 r11 v7 h1 r12 v8 v9 h2 r13 v10 v11 r14 v12 v13 r15 v14 w15 r16 x122 x123 h3 h4 r17 r18 r19 r20 v18 r21 r22 r23 v19 h2 g1 f21 h3 g2 fn124)) hD hS hA [0, 2, 3] rfl
                  refine va_calli (va_runV (As := [.int 2, .int x121]) (rest := []) ⟨hx, hb, hml, hown, hts⟩ (k_X12_isCalm l dC dI h0 h2 h3 v0 r0 v1 v2 v3 v4 r1 r2 r3 r4 r5 r6 r7 v5 v6 r8 r9 r10 r11 v7 h1 r12 v8 v9 r13 v10 v11 r14 v12 v13 r15 v14 w15 r16 x122 x123 h4 r17 r18 r19 r20 v18 r21 r22 r23 v19 g1 f21 g2 fn124 2 x121 ⟨i_v1a, i_v1b⟩ ⟨i_v5a, i_v5b⟩ ⟨i_v6a, i_v6b⟩ ⟨i_v7a, i_v7b⟩ ⟨i_v8a, i_v8b⟩ ⟨i_v9a, i_v9b⟩ ⟨i_v10a, i_v10b⟩ ⟨i_v14a, i_v14b⟩ ⟨i_v18a, i_v18b⟩ ⟨i_v19a, i_v19b⟩ ⟨by decide, by decide⟩ ia_f21 H.size) (cwV 2 hts g_X12_tryShelf_6_1 rfl rfl rfl (by decide +kernel) ⟨Nat.le_of_ble_eq_true rfl, Nat.le_of_ble_eq_true rfl⟩) (pv_PV12 hPc hKc hDc (q0 := 0) rfl) rfl rfl hl.1 rfl (lv_room (Nat.le_of_ble_eq_true rfl)) dX12_tryShelf_117 ⟨Nat.le_of_ble_eq_true rfl, Nat.le_of_ble_eq_true rfl⟩) hS (fun q _ h => hFc q h) hFc (fun ra140 u t H1 locs ht hvm hwra140 hB hz1 hk1 hS => ?_)
                  try rw [hwra140] at hB
                  have hkra140_0 : ((2 : Int32)).toInt = 2 := by decide
                  obtain ⟨pt0_ra140, pt1_ra140, hP1, hK1, hD1⟩ := hB
                  rw [ht] at hP1
                  obtain ⟨hP2, hD2⟩ := va_join (wr := (wd_5481fbec h1 g0 f20 h4 g3 fn125)) (w1 := (wd_f4deda84 h0 v0 r0 v1 v2 v3 v4 r1 r2 r3 r4 r5 r6 r7 v5 v6 r8 r9 r10 r11 v7 h1 r12 v8 v9 h2 r13 v10 v11 r14 v12 v13 r15 v14 w15 r16 x122 x123 h3 h4 r17 r18 r19 r20 v18 r21 r22 r23 v19 h2 g1 f21 h3 g2 fn124)) hP hD [0, 2, 3] [1, 4] rfl rfl (by decide) (by decide) hk1 hFc hP1 hD1
                  clear hP hD hPc hDc hKc hFc hP1 hK1 hD1 hk1 hz1
                  generalize H1 = H at hP2 hS ⊢
                  have hP := hP2.sub (ws' := (wd_90cd99f9 h0 v0 r0 v1 v2 v3 v4 r1 r2 r3 r4 r5 r6 r7 v5 v6 r8 r9 r10 r11 v7 h1 r12 v8 v9 h2 r13 v10 v11 r14 v12 v13 r15 v14 w15 r16 x122 x123 h3 h4 r17 r18 r19 r20 v18 r21 r22 r23 v19 h1 g0 f20 h2 g1 f21 h3 g2 fn124 h4 g3 fn125)) [2, 0, 3, 4, 1] rfl
                  have hD := hD2.sub (ws' := (wd_90cd99f9 h0 v0 r0 v1 v2 v3 v4 r1 r2 r3 r4 r5 r6 r7 v5 v6 r8 r9 r10 r11 v7 h1 r12 v8 v9 h2 r13 v10 v11 r14 v12 v13 r15 v14 w15 r16 x122 x123 h3 h4 r17 r18 r19 r20 v18 r21 r22 r23 v19 h1 g0 f20 h2 g1 f21 h3 g2 fn124 h4 g3 fn125)) [2, 0, 3, 4, 1] (by decide) rfl
                  clear hP2 hD2
                  refine lv_if_eq (tgt := 202) hx hb dX12_tryShelf_120 (by decide) (fun c141 => ?_) (fun c141 => ?_)
                  · skip
                    have fc141 : ra140.toInt = 0 := congrArg Int32.toInt c141
                    exact hJ137 x122 x123 fn124 fn125 H locs ls hP hD hS (lv_sub hl [0, 1, 2, 3, 4, 5, 6] rfl)
                  · skip
                    have fc141 : ¬ (ra140.toInt = 0) := fun h9 => c141 (Int32.toInt_inj.mp h9)
                    refine lv_aload_n hx hb dX12_tryShelf_123 rfl (lv_at hl 2 rfl) ?_
                    refine va_get (D := (dC, dI)) (ci := 12) (v := .ref h4) (C := RX12) (T := TX12) (N := 48) hx hb hts (fun _ h => List.mem_cons_of_mem _ (List.mem_append_right _ h)) hown hK hP 0 rfl rfl 38 (by decide) (hts (.fieldLink RX12 77 "LeftArgumentsModel" "room" "[I") (List.mem_cons_of_mem _ (List.mem_append_left _ (List.mem_of_getElem? (i := 31) rfl)))) (fun _ h9 => h9) rfl dX12_tryShelf_124 ?_
                    refine lv_iload hx hb dX12_tryShelf_127 (lv_at hl 0 rfl) ?_
                    refine lv_dup2_11 hx hb dX12_tryShelf_129 rfl rfl ?_
                    refine va_iald hx hb hK hP 4 3 rfl rfl (vp_in_iff.mpr ⟨by omega, by omega⟩) dX12_tryShelf_130 ?_
                    refine lv_topi (fun t142 et142 => ?_)
                    refine lv_aload_n hx hb dX12_tryShelf_131 rfl (lv_at hl 2 rfl) ?_
                    refine lv_iload_n hx hb dX12_tryShelf_132 rfl (lv_at hl 3 rfl) ?_
                    refine lv_iconst (v := 0) hx hb dX12_tryShelf_133 (by decide) ?_
                    have hPc := hP.sub (ws' := (wd_5013416a h0 v0 r0 v1 v2 v3 v4 r1 r2 r3 r4 r5 r6 r7 v5 v6 r8 r9 r10 r11 v7 h1 r12 v8 v9 h2 r13 v10 v11 r14 v12 v13 r15 v14 w15 r16 x122 x123 h3 h4 r17 r18 r19 r20 v18 r21 r22 r23 v19 h2 g1 f21)) [0, 2] rfl
                    have hDc := hD.sub (ws' := (wd_5013416a h0 v0 r0 v1 v2 v3 v4 r1 r2 r3 r4 r5 r6 r7 v5 v6 r8 r9 r10 r11 v7 h1 r12 v8 v9 h2 r13 v10 v11 r14 v12 v13 r15 v14 w15 r16 x122 x123 h3 h4 r17 r18 r19 r20 v18 r21 r22 r23 v19 h2 g1 f21)) [0, 2] (by decide) rfl
                    have hKc := hK.sub (tys' := [(g1, .int)]) [1] rfl
                    have hFc := va_free (wc := (wd_5013416a h0 v0 r0 v1 v2 v3 v4 r1 r2 r3 r4 r5 r6 r7 v5 v6 r8 r9 r10 r11 v7 h1 r12 v8 v9 h2 r13 v10 v11 r14 v12 v13 r15 v14 w15 r16 x122 x123 h3 h4 r17 r18 r19 r20 v18 r21 r22 r23 v19 h2 g1 f21)) hD hS hA [0, 2] rfl
                    refine va_calli (va_runV (As := [.int 2, .int 0]) (rest := [.int t142, .int x121, .ref h4]) ⟨hx, hb, hml, hown, hts⟩ (k_X12_of_3 l dC dI h0 h2 v0 r0 v1 v2 v3 v4 r1 r2 r3 r4 r5 r6 r7 v5 v6 r8 r9 r10 r11 v7 h1 r12 v8 v9 r13 v10 v11 r14 v12 v13 r15 v14 w15 r16 x122 x123 h3 h4 r17 r18 r19 r20 v18 r21 r22 r23 v19 g1 f21 2 ⟨i_v1a, i_v1b⟩ ⟨i_v5a, i_v5b⟩ ⟨i_v6a, i_v6b⟩ ⟨i_v7a, i_v7b⟩ ⟨i_v8a, i_v8b⟩ ⟨i_v9a, i_v9b⟩ ⟨i_v10a, i_v10b⟩ ⟨i_v14a, i_v14b⟩ ⟨i_v18a, i_v18b⟩ ⟨i_v19a, i_v19b⟩ ⟨by decide, by decide⟩ ia_f21.1 H.size) (cwV 2 hts g_X12_tryShelf_6_2 rfl rfl rfl (by decide +kernel) ⟨Nat.le_of_ble_eq_true rfl, Nat.le_of_ble_eq_true rfl⟩) (pv_PV12 hPc hKc hDc (q0 := 0) rfl) rfl rfl hl.1 rfl (lv_room (Nat.le_of_ble_eq_true rfl)) dX12_tryShelf_134 ⟨Nat.le_of_ble_eq_true rfl, Nat.le_of_ble_eq_true rfl⟩) hS (fun q _ h => hFc q h) hFc (fun ra143 u t H1 locs ht hvm hwra143 hB hz1 hk1 hS => ?_)
                    try rw [hwra143] at hB
                    have hkra143_0 : ((2 : Int32)).toInt = 2 := by decide
                    obtain ⟨pt0_ra143, pt1_ra143, pt2_ra143, hP1, hK1, hD1⟩ := hB
                    rw [ht] at hP1
                    obtain ⟨hP2, hD2⟩ := va_join (wr := (wd_20b67a68 h1 g0 f20 h3 g2 fn124 h4 g3 fn125)) (w1 := (wd_5013416a h0 v0 r0 v1 v2 v3 v4 r1 r2 r3 r4 r5 r6 r7 v5 v6 r8 r9 r10 r11 v7 h1 r12 v8 v9 h2 r13 v10 v11 r14 v12 v13 r15 v14 w15 r16 x122 x123 h3 h4 r17 r18 r19 r20 v18 r21 r22 r23 v19 h2 g1 f21)) hP hD [0, 2] [1, 3, 4] rfl rfl (by decide) (by decide) hk1 hFc hP1 hD1
                    clear hP hD hPc hDc hKc hFc hP1 hK1 hD1 hk1 hz1
                    generalize H1 = H at hP2 hS ⊢
                    have hP := hP2.sub (ws' := (wd_90cd99f9 h0 v0 r0 v1 v2 v3 v4 r1 r2 r3 r4 r5 r6 r7 v5 v6 r8 r9 r10 r11 v7 h1 r12 v8 v9 h2 r13 v10 v11 r14 v12 v13 r15 v14 w15 r16 x122 x123 h3 h4 r17 r18 r19 r20 v18 r21 r22 r23 v19 h1 g0 f20 h2 g1 f21 h3 g2 fn124 h4 g3 fn125)) [3, 0, 4, 1, 2] rfl
                    have hD := hD2.sub (ws' := (wd_90cd99f9 h0 v0 r0 v1 v2 v3 v4 r1 r2 r3 r4 r5 r6 r7 v5 v6 r8 r9 r10 r11 v7 h1 r12 v8 v9 h2 r13 v10 v11 r14 v12 v13 r15 v14 w15 r16 x122 x123 h3 h4 r17 r18 r19 r20 v18 r21 r22 r23 v19 h1 g0 f20 h2 g1 f21 h3 g2 fn124 h4 g3 fn125)) [3, 0, 4, 1, 2] (by decide) rfl
                    clear hP2 hD2
                    refine lv_iadd hx hb dX12_tryShelf_137 ?_
                    refine lv_topi (fun t144 et144 => ?_)
                    refine va_iast hx hb hK hP hD hS 4 3 rfl rfl (vp_in_iff.mpr ⟨by omega, by omega⟩) dX12_tryShelf_138 (fun H locs hP hD hS => ?_)
                    obtain ⟨fn145, efn145⟩ : ∃ g : Nat → Int32, g = upd fn125 (Int32.toNatClampNeg x121) t144 := ⟨_, rfl⟩
                    rw [← efn145] at hP hD
                    have hP : va_P (dC, dI) vwCl (wd_90cd99f9 h0 v0 r0 v1 v2 v3 v4 r1 r2 r3 r4 r5 r6 r7 v5 v6 r8 r9 r10 r11 v7 h1 r12 v8 v9 h2 r13 v10 v11 r14 v12 v13 r15 v14 w15 r16 x122 x123 h3 h4 r17 r18 r19 r20 v18 r21 r22 r23 v19 h1 g0 f20 h2 g1 f21 h3 g2 fn124 h4 g3 fn145) H := hP
                    have hD : va_D A (wd_90cd99f9 h0 v0 r0 v1 v2 v3 v4 r1 r2 r3 r4 r5 r6 r7 v5 v6 r8 r9 r10 r11 v7 h1 r12 v8 v9 h2 r13 v10 v11 r14 v12 v13 r15 v14 w15 r16 x122 x123 h3 h4 r17 r18 r19 r20 v18 r21 r22 r23 v19 h1 g0 f20 h2 g1 f21 h3 g2 fn124 h4 g3 fn145) := hD
                    refine lv_aload_n hx hb dX12_tryShelf_139 rfl (lv_at hl 2 rfl) ?_
                    refine va_get (D := (dC, dI)) (ci := 12) (v := .ref h3) (C := RX12) (T := TX12) (N := 48) hx hb hts (fun _ h => List.mem_cons_of_mem _ (List.mem_append_right _ h)) hown hK hP 0 rfl rfl 37 (by decide) (hts (.fieldLink RX12 74 "LeftArgumentsModel" "onShelf" "[I") (List.mem_cons_of_mem _ (List.mem_append_left _ (List.mem_of_getElem? (i := 15) rfl)))) (fun _ h9 => h9) rfl dX12_tryShelf_140 ?_
                    refine lv_iload_n hx hb dX12_tryShelf_143 rfl (lv_at hl 3 rfl) ?_
                    refine lv_iload hx hb dX12_tryShelf_144 (lv_at hl 0 rfl) ?_
                    refine va_iast hx hb hK hP hD hS 3 2 rfl rfl (pv_c (x := 2) (n := 8) (by decide)) dX12_tryShelf_146 (fun H locs hP hD hS => ?_)
                    obtain ⟨fn146, efn146⟩ : ∃ g : Nat → Int32, g = upd fn124 (Int32.toNatClampNeg 2) x121 := ⟨_, rfl⟩
                    rw [← efn146] at hP hD
                    have hP : va_P (dC, dI) vwCl (wd_90cd99f9 h0 v0 r0 v1 v2 v3 v4 r1 r2 r3 r4 r5 r6 r7 v5 v6 r8 r9 r10 r11 v7 h1 r12 v8 v9 h2 r13 v10 v11 r14 v12 v13 r15 v14 w15 r16 x122 x123 h3 h4 r17 r18 r19 r20 v18 r21 r22 r23 v19 h1 g0 f20 h2 g1 f21 h3 g2 fn146 h4 g3 fn145) H := hP
                    have hD : va_D A (wd_90cd99f9 h0 v0 r0 v1 v2 v3 v4 r1 r2 r3 r4 r5 r6 r7 v5 v6 r8 r9 r10 r11 v7 h1 r12 v8 v9 h2 r13 v10 v11 r14 v12 v13 r15 v14 w15 r16 x122 x123 h3 h4 r17 r18 r19 r20 v18 r21 r22 r23 v19 h1 g0 f20 h2 g1 f21 h3 g2 fn146 h4 g3 fn145) := hD
                    refine lv_aload_n hx hb dX12_tryShelf_147 rfl (lv_at hl 2 rfl) ?_
                    refine lv_iload_n hx hb dX12_tryShelf_148 rfl (lv_at hl 3 rfl) ?_
                    refine lv_iconst (v := 1) hx hb dX12_tryShelf_149 (by decide) ?_
                    refine lv_iadd hx hb dX12_tryShelf_150 ?_
                    refine lv_topi (fun tv147 etv147 => ?_)
                    obtain rfl : tv147 = (3 : Int32) := etv147.trans (by first | rfl | decide)
                    refine lv_bipush (v := 10) hx hb dX12_tryShelf_151 (by decide) ?_
                    refine lv_iload_n hx hb dX12_tryShelf_153 rfl (lv_at hl 4 rfl) ?_
                    refine lv_imul hx hb dX12_tryShelf_154 ?_
                    refine lv_topi (fun t148 et148 => ?_)
                    refine lv_iload hx hb dX12_tryShelf_155 (lv_at hl 0 rfl) ?_
                    refine lv_iadd hx hb dX12_tryShelf_157 ?_
                    refine lv_topi (fun t149 et149 => ?_)
                    refine lv_iload_n hx hb dX12_tryShelf_158 rfl (lv_at hl 5 rfl) ?_
                    refine lv_aload_n hx hb dX12_tryShelf_159 rfl (lv_at hl 2 rfl) ?_
                    refine va_get (D := (dC, dI)) (ci := 12) (v := .ref h4) (C := RX12) (T := TX12) (N := 48) hx hb hts (fun _ h => List.mem_cons_of_mem _ (List.mem_append_right _ h)) hown hK hP 0 rfl rfl 38 (by decide) (hts (.fieldLink RX12 77 "LeftArgumentsModel" "room" "[I") (List.mem_cons_of_mem _ (List.mem_append_left _ (List.mem_of_getElem? (i := 31) rfl)))) (fun _ h9 => h9) rfl dX12_tryShelf_160 ?_
                    refine lv_iload hx hb dX12_tryShelf_163 (lv_at hl 0 rfl) ?_
                    refine va_iald hx hb hK hP 4 3 rfl rfl (vp_in_iff.mpr ⟨by omega, by omega⟩) dX12_tryShelf_165 ?_
                    refine lv_topi (fun t150 et150 => ?_)
                    refine lv_aload_n hx hb dX12_tryShelf_166 rfl (lv_at hl 2 rfl) ?_
                    refine lv_iload_n hx hb dX12_tryShelf_167 rfl (lv_at hl 3 rfl) ?_
                    refine lv_iconst (v := 0) hx hb dX12_tryShelf_168 (by decide) ?_
                    have hPc := hP.sub (ws' := (wd_5013416a h0 v0 r0 v1 v2 v3 v4 r1 r2 r3 r4 r5 r6 r7 v5 v6 r8 r9 r10 r11 v7 h1 r12 v8 v9 h2 r13 v10 v11 r14 v12 v13 r15 v14 w15 r16 x122 x123 h3 h4 r17 r18 r19 r20 v18 r21 r22 r23 v19 h2 g1 f21)) [0, 2] rfl
                    have hDc := hD.sub (ws' := (wd_5013416a h0 v0 r0 v1 v2 v3 v4 r1 r2 r3 r4 r5 r6 r7 v5 v6 r8 r9 r10 r11 v7 h1 r12 v8 v9 h2 r13 v10 v11 r14 v12 v13 r15 v14 w15 r16 x122 x123 h3 h4 r17 r18 r19 r20 v18 r21 r22 r23 v19 h2 g1 f21)) [0, 2] (by decide) rfl
                    have hKc := hK.sub (tys' := [(g1, .int)]) [1] rfl
                    have hFc := va_free (wc := (wd_5013416a h0 v0 r0 v1 v2 v3 v4 r1 r2 r3 r4 r5 r6 r7 v5 v6 r8 r9 r10 r11 v7 h1 r12 v8 v9 h2 r13 v10 v11 r14 v12 v13 r15 v14 w15 r16 x122 x123 h3 h4 r17 r18 r19 r20 v18 r21 r22 r23 v19 h2 g1 f21)) hD hS hA [0, 2] rfl
                    refine va_calli (va_runV (As := [.int 2, .int 0]) (rest := [.int t150, .int v25, .int t149, .int 3, .ref h0]) ⟨hx, hb, hml, hown, hts⟩ (k_X12_of_3 l dC dI h0 h2 v0 r0 v1 v2 v3 v4 r1 r2 r3 r4 r5 r6 r7 v5 v6 r8 r9 r10 r11 v7 h1 r12 v8 v9 r13 v10 v11 r14 v12 v13 r15 v14 w15 r16 x122 x123 h3 h4 r17 r18 r19 r20 v18 r21 r22 r23 v19 g1 f21 2 ⟨i_v1a, i_v1b⟩ ⟨i_v5a, i_v5b⟩ ⟨i_v6a, i_v6b⟩ ⟨i_v7a, i_v7b⟩ ⟨i_v8a, i_v8b⟩ ⟨i_v9a, i_v9b⟩ ⟨i_v10a, i_v10b⟩ ⟨i_v14a, i_v14b⟩ ⟨i_v18a, i_v18b⟩ ⟨i_v19a, i_v19b⟩ ⟨by decide, by decide⟩ ia_f21.1 H.size) (cwV 2 hts g_X12_tryShelf_6_2 rfl rfl rfl (by decide +kernel) ⟨Nat.le_of_ble_eq_true rfl, Nat.le_of_ble_eq_true rfl⟩) (pv_PV12 hPc hKc hDc (q0 := 0) rfl) rfl rfl hl.1 rfl (lv_room (Nat.le_of_ble_eq_true rfl)) dX12_tryShelf_169 ⟨Nat.le_of_ble_eq_true rfl, Nat.le_of_ble_eq_true rfl⟩) hS (fun q _ h => hFc q h) hFc (fun ra151 u t H1 locs ht hvm hwra151 hB hz1 hk1 hS => ?_)
                    try rw [hwra151] at hB
                    have hkra151_0 : ((2 : Int32)).toInt = 2 := by decide
                    obtain ⟨pt0_ra151, pt1_ra151, pt2_ra151, hP1, hK1, hD1⟩ := hB
                    rw [ht] at hP1
                    obtain ⟨hP2, hD2⟩ := va_join (wr := (wd_20b67a68 h1 g0 f20 h3 g2 fn146 h4 g3 fn145)) (w1 := (wd_5013416a h0 v0 r0 v1 v2 v3 v4 r1 r2 r3 r4 r5 r6 r7 v5 v6 r8 r9 r10 r11 v7 h1 r12 v8 v9 h2 r13 v10 v11 r14 v12 v13 r15 v14 w15 r16 x122 x123 h3 h4 r17 r18 r19 r20 v18 r21 r22 r23 v19 h2 g1 f21)) hP hD [0, 2] [1, 3, 4] rfl rfl (by decide) (by decide) hk1 hFc hP1 hD1
                    clear hP hD hPc hDc hKc hFc hP1 hK1 hD1 hk1 hz1
                    generalize H1 = H at hP2 hS ⊢
                    have hP := hP2.sub (ws' := (wd_90cd99f9 h0 v0 r0 v1 v2 v3 v4 r1 r2 r3 r4 r5 r6 r7 v5 v6 r8 r9 r10 r11 v7 h1 r12 v8 v9 h2 r13 v10 v11 r14 v12 v13 r15 v14 w15 r16 x122 x123 h3 h4 r17 r18 r19 r20 v18 r21 r22 r23 v19 h1 g0 f20 h2 g1 f21 h3 g2 fn146 h4 g3 fn145)) [3, 0, 4, 1, 2] rfl
                    have hD := hD2.sub (ws' := (wd_90cd99f9 h0 v0 r0 v1 v2 v3 v4 r1 r2 r3 r4 r5 r6 r7 v5 v6 r8 r9 r10 r11 v7 h1 r12 v8 v9 h2 r13 v10 v11 r14 v12 v13 r15 v14 w15 r16 x122 x123 h3 h4 r17 r18 r19 r20 v18 r21 r22 r23 v19 h1 g0 f20 h2 g1 f21 h3 g2 fn146 h4 g3 fn145)) [3, 0, 4, 1, 2] (by decide) rfl
                    clear hP2 hD2
                    have hJ153 : ∀ (x152 : Int32) (H : Heap) (locs : List Loc) (ls : Array Slot), 0 ≤ x152.toInt → x152.toInt ≤ 1 → va_P (dC, dI) vwCl (wd_90cd99f9 h0 v0 r0 v1 v2 v3 v4 r1 r2 r3 r4 r5 r6 r7 v5 v6 r8 r9 r10 r11 v7 h1 r12 v8 v9 h2 r13 v10 v11 r14 v12 v13 r15 v14 w15 r16 x122 x123 h3 h4 r17 r18 r19 r20 v18 r21 r22 r23 v19 h1 g0 f20 h2 g1 f21 h3 g2 fn146 h4 g3 fn145) H → va_D A (wd_90cd99f9 h0 v0 r0 v1 v2 v3 v4 r1 r2 r3 r4 r5 r6 r7 v5 v6 r8 r9 r10 r11 v7 h1 r12 v8 v9 h2 r13 v10 v11 r14 v12 v13 r15 v14 w15 r16 x122 x123 h3 h4 r17 r18 r19 r20 v18 r21 r22 r23 v19 h1 g0 f20 h2 g1 f21 h3 g2 fn146 h4 g3 fn145) → va_S A s.heap H locs → lv_has ls 7 [(6, .int x121), (5, .int x104), (0, .ref h0), (1, .int 2), (2, .int v24), (3, .int v25), (4, .int v26)] → W p l e ({ frames := 9, cells := 0, slots := 0, locals := 218 }) s m ([.ref h0, .int 2, .int v24, .int v25, .int v26] : List Value).toArray below meth c H locs 0 0 Q (F0 m 180 ls [.int x152, .int v25, .int t149, .int 3, .ref h0]) := by
                      intro x152 H locs ls qa_x152 qb_x152 hP hD hS hl
                      refine lv_iadd hx hb dX12_tryShelf_180 ?_
                      refine lv_topi (fun t154 et154 => ?_)
                      have r5t154v25 := Int32.le_toInt v25; have r6t154v25 := Int32.toInt_lt v25
                      have gt154 : t154.toInt = v25.toInt + x152.toInt := pv_add (a := v25.toInt) (b := x152.toInt) et154 rfl rfl (by omega) (by omega)
                      refine lv_iload hx hb dX12_tryShelf_181 (lv_at hl 6 rfl) ?_
                      have hPc := hP.sub (ws' := (wd_90cd99f9 h0 v0 r0 v1 v2 v3 v4 r1 r2 r3 r4 r5 r6 r7 v5 v6 r8 r9 r10 r11 v7 h1 r12 v8 v9 h2 r13 v10 v11 r14 v12 v13 r15 v14 w15 r16 x122 x123 h3 h4 r17 r18 r19 r20 v18 r21 r22 r23 v19 h1 g0 f20 h2 g1 f21 h3 g2 fn146 h4 g3 fn145)) [0, 1, 2, 3, 4] rfl
                      have hDc := hD.sub (ws' := (wd_90cd99f9 h0 v0 r0 v1 v2 v3 v4 r1 r2 r3 r4 r5 r6 r7 v5 v6 r8 r9 r10 r11 v7 h1 r12 v8 v9 h2 r13 v10 v11 r14 v12 v13 r15 v14 w15 r16 x122 x123 h3 h4 r17 r18 r19 r20 v18 r21 r22 r23 v19 h1 g0 f20 h2 g1 f21 h3 g2 fn146 h4 g3 fn145)) [0, 1, 2, 3, 4] (by decide) rfl
                      have hKc := hK.sub (tys' := [(g0, .int), (g1, .int), (g2, .int), (g3, .int)]) [0, 1, 2, 3] rfl
                      have hFc := va_free (wc := (wd_90cd99f9 h0 v0 r0 v1 v2 v3 v4 r1 r2 r3 r4 r5 r6 r7 v5 v6 r8 r9 r10 r11 v7 h1 r12 v8 v9 h2 r13 v10 v11 r14 v12 v13 r15 v14 w15 r16 x122 x123 h3 h4 r17 r18 r19 r20 v18 r21 r22 r23 v19 h1 g0 f20 h2 g1 f21 h3 g2 fn146 h4 g3 fn145)) hD hS hA [0, 1, 2, 3, 4] rfl
                      refine va_callv (va_runV (As := [.int 3, .int t149, .int t154, .int v26]) (rest := []) ⟨hx, hb, hml, hown, hts⟩ (k_X12_tryShelf_5 l dC dI h0 h1 h2 h3 h4 v0 r0 v1 v2 v3 v4 r1 r2 r3 r4 r5 r6 r7 v5 v6 r8 r9 r10 r11 v7 r12 v8 v9 r13 v10 v11 r14 v12 v13 r15 v14 w15 r16 x122 x123 r17 r18 r19 r20 v18 r21 r22 r23 v19 g0 f20 g1 f21 g2 fn146 g3 fn145 t149 t154 v26 ⟨i_v1a, i_v1b⟩ ⟨i_v5a, i_v5b⟩ ⟨i_v6a, i_v6b⟩ ⟨i_v7a, i_v7b⟩ ⟨i_v8a, i_v8b⟩ ⟨i_v9a, i_v9b⟩ ⟨i_v10a, i_v10b⟩ ⟨i_v14a, i_v14b⟩ ⟨i_v18a, i_v18b⟩ ⟨i_v19a, i_v19b⟩ ⟨i_v26a, i_v26b⟩ ia_f20 ia_f21 H.size) (cwV 4 hts g_X12_tryShelf_6_4 rfl rfl rfl (by decide +kernel) ⟨Nat.le_of_ble_eq_true rfl, Nat.le_of_ble_eq_true rfl⟩) (pv_PV12 hPc hKc hDc (q0 := 0) rfl) rfl rfl hl.1 rfl (lv_room (Nat.le_of_ble_eq_true rfl)) dX12_tryShelf_183 ⟨Nat.le_of_ble_eq_true rfl, Nat.le_of_ble_eq_true rfl⟩) hS (fun q _ h => hFc q h) hFc (fun u t H1 locs ht hvm hwra155 hB hz1 hk1 hS => ?_)
                      obtain ⟨x156, x157, fn158, fn159, hP1, hK1, hD1⟩ := hB
                      rw [ht] at hP1
                      obtain ⟨hP2, hD2⟩ := va_join (wr := []) (w1 := (wd_90cd99f9 h0 v0 r0 v1 v2 v3 v4 r1 r2 r3 r4 r5 r6 r7 v5 v6 r8 r9 r10 r11 v7 h1 r12 v8 v9 h2 r13 v10 v11 r14 v12 v13 r15 v14 w15 r16 x156 x157 h3 h4 r17 r18 r19 r20 v18 r21 r22 r23 v19 h1 g0 f20 h2 g1 f21 h3 g2 fn158 h4 g3 fn159)) hP hD [0, 1, 2, 3, 4] [] rfl rfl (by decide) (by decide) hk1 hFc hP1 hD1
                      clear hP hD hPc hDc hKc hFc hP1 hK1 hD1 hk1 hz1
                      generalize H1 = H at hP2 hS ⊢
                      have hP : va_P (dC, dI) vwCl (wd_90cd99f9 h0 v0 r0 v1 v2 v3 v4 r1 r2 r3 r4 r5 r6 r7 v5 v6 r8 r9 r10 r11 v7 h1 r12 v8 v9 h2 r13 v10 v11 r14 v12 v13 r15 v14 w15 r16 x156 x157 h3 h4 r17 r18 r19 r20 v18 r21 r22 r23 v19 h1 g0 f20 h2 g1 f21 h3 g2 fn158 h4 g3 fn159) H := hP2
                      have hD : va_D A (wd_90cd99f9 h0 v0 r0 v1 v2 v3 v4 r1 r2 r3 r4 r5 r6 r7 v5 v6 r8 r9 r10 r11 v7 h1 r12 v8 v9 h2 r13 v10 v11 r14 v12 v13 r15 v14 w15 r16 x156 x157 h3 h4 r17 r18 r19 r20 v18 r21 r22 r23 v19 h1 g0 f20 h2 g1 f21 h3 g2 fn158 h4 g3 fn159) := hD2
                      clear hP2 hD2
                      refine lv_aload_n hx hb dX12_tryShelf_186 rfl (lv_at hl 2 rfl) ?_
                      refine va_get (D := (dC, dI)) (ci := 12) (v := .ref h4) (C := RX12) (T := TX12) (N := 48) hx hb hts (fun _ h => List.mem_cons_of_mem _ (List.mem_append_right _ h)) hown hK hP 0 rfl rfl 38 (by decide) (hts (.fieldLink RX12 77 "LeftArgumentsModel" "room" "[I") (List.mem_cons_of_mem _ (List.mem_append_left _ (List.mem_of_getElem? (i := 31) rfl)))) (fun _ h9 => h9) rfl dX12_tryShelf_187 ?_
                      refine lv_iload hx hb dX12_tryShelf_190 (lv_at hl 0 rfl) ?_
                      refine lv_dup2_11 hx hb dX12_tryShelf_192 rfl rfl ?_
                      refine va_iald hx hb hK hP 4 3 rfl rfl (vp_in_iff.mpr ⟨by omega, by omega⟩) dX12_tryShelf_193 ?_
                      refine lv_topi (fun t160 et160 => ?_)
                      refine lv_aload_n hx hb dX12_tryShelf_194 rfl (lv_at hl 2 rfl) ?_
                      refine lv_iload_n hx hb dX12_tryShelf_195 rfl (lv_at hl 3 rfl) ?_
                      refine lv_iconst (v := 0) hx hb dX12_tryShelf_196 (by decide) ?_
                      have hPc := hP.sub (ws' := (wd_5013416a h0 v0 r0 v1 v2 v3 v4 r1 r2 r3 r4 r5 r6 r7 v5 v6 r8 r9 r10 r11 v7 h1 r12 v8 v9 h2 r13 v10 v11 r14 v12 v13 r15 v14 w15 r16 x156 x157 h3 h4 r17 r18 r19 r20 v18 r21 r22 r23 v19 h2 g1 f21)) [0, 2] rfl
                      have hDc := hD.sub (ws' := (wd_5013416a h0 v0 r0 v1 v2 v3 v4 r1 r2 r3 r4 r5 r6 r7 v5 v6 r8 r9 r10 r11 v7 h1 r12 v8 v9 h2 r13 v10 v11 r14 v12 v13 r15 v14 w15 r16 x156 x157 h3 h4 r17 r18 r19 r20 v18 r21 r22 r23 v19 h2 g1 f21)) [0, 2] (by decide) rfl
                      have hKc := hK.sub (tys' := [(g1, .int)]) [1] rfl
                      have hFc := va_free (wc := (wd_5013416a h0 v0 r0 v1 v2 v3 v4 r1 r2 r3 r4 r5 r6 r7 v5 v6 r8 r9 r10 r11 v7 h1 r12 v8 v9 h2 r13 v10 v11 r14 v12 v13 r15 v14 w15 r16 x156 x157 h3 h4 r17 r18 r19 r20 v18 r21 r22 r23 v19 h2 g1 f21)) hD hS hA [0, 2] rfl
                      refine va_calli (va_runV (As := [.int 2, .int 0]) (rest := [.int t160, .int x121, .ref h4]) ⟨hx, hb, hml, hown, hts⟩ (k_X12_of_3 l dC dI h0 h2 v0 r0 v1 v2 v3 v4 r1 r2 r3 r4 r5 r6 r7 v5 v6 r8 r9 r10 r11 v7 h1 r12 v8 v9 r13 v10 v11 r14 v12 v13 r15 v14 w15 r16 x156 x157 h3 h4 r17 r18 r19 r20 v18 r21 r22 r23 v19 g1 f21 2 ⟨i_v1a, i_v1b⟩ ⟨i_v5a, i_v5b⟩ ⟨i_v6a, i_v6b⟩ ⟨i_v7a, i_v7b⟩ ⟨i_v8a, i_v8b⟩ ⟨i_v9a, i_v9b⟩ ⟨i_v10a, i_v10b⟩ ⟨i_v14a, i_v14b⟩ ⟨i_v18a, i_v18b⟩ ⟨i_v19a, i_v19b⟩ ⟨by decide, by decide⟩ ia_f21.1 H.size) (cwV 2 hts g_X12_tryShelf_6_2 rfl rfl rfl (by decide +kernel) ⟨Nat.le_of_ble_eq_true rfl, Nat.le_of_ble_eq_true rfl⟩) (pv_PV12 hPc hKc hDc (q0 := 0) rfl) rfl rfl hl.1 rfl (lv_room (Nat.le_of_ble_eq_true rfl)) dX12_tryShelf_197 ⟨Nat.le_of_ble_eq_true rfl, Nat.le_of_ble_eq_true rfl⟩) hS (fun q _ h => hFc q h) hFc (fun ra161 u t H1 locs ht hvm hwra161 hB hz1 hk1 hS => ?_)
                      try rw [hwra161] at hB
                      have hkra161_0 : ((2 : Int32)).toInt = 2 := by decide
                      obtain ⟨pt0_ra161, pt1_ra161, pt2_ra161, hP1, hK1, hD1⟩ := hB
                      rw [ht] at hP1
                      obtain ⟨hP2, hD2⟩ := va_join (wr := (wd_20b67a68 h1 g0 f20 h3 g2 fn158 h4 g3 fn159)) (w1 := (wd_5013416a h0 v0 r0 v1 v2 v3 v4 r1 r2 r3 r4 r5 r6 r7 v5 v6 r8 r9 r10 r11 v7 h1 r12 v8 v9 h2 r13 v10 v11 r14 v12 v13 r15 v14 w15 r16 x156 x157 h3 h4 r17 r18 r19 r20 v18 r21 r22 r23 v19 h2 g1 f21)) hP hD [0, 2] [1, 3, 4] rfl rfl (by decide) (by decide) hk1 hFc hP1 hD1
                      clear hP hD hPc hDc hKc hFc hP1 hK1 hD1 hk1 hz1
                      generalize H1 = H at hP2 hS ⊢
                      have hP := hP2.sub (ws' := (wd_90cd99f9 h0 v0 r0 v1 v2 v3 v4 r1 r2 r3 r4 r5 r6 r7 v5 v6 r8 r9 r10 r11 v7 h1 r12 v8 v9 h2 r13 v10 v11 r14 v12 v13 r15 v14 w15 r16 x156 x157 h3 h4 r17 r18 r19 r20 v18 r21 r22 r23 v19 h1 g0 f20 h2 g1 f21 h3 g2 fn158 h4 g3 fn159)) [3, 0, 4, 1, 2] rfl
                      have hD := hD2.sub (ws' := (wd_90cd99f9 h0 v0 r0 v1 v2 v3 v4 r1 r2 r3 r4 r5 r6 r7 v5 v6 r8 r9 r10 r11 v7 h1 r12 v8 v9 h2 r13 v10 v11 r14 v12 v13 r15 v14 w15 r16 x156 x157 h3 h4 r17 r18 r19 r20 v18 r21 r22 r23 v19 h1 g0 f20 h2 g1 f21 h3 g2 fn158 h4 g3 fn159)) [3, 0, 4, 1, 2] (by decide) rfl
                      clear hP2 hD2
                      refine lv_isub hx hb dX12_tryShelf_200 ?_
                      refine lv_topi (fun t162 et162 => ?_)
                      refine va_iast hx hb hK hP hD hS 4 3 rfl rfl (vp_in_iff.mpr ⟨by omega, by omega⟩) dX12_tryShelf_201 (fun H locs hP hD hS => ?_)
                      obtain ⟨fn163, efn163⟩ : ∃ g : Nat → Int32, g = upd fn159 (Int32.toNatClampNeg x121) t162 := ⟨_, rfl⟩
                      rw [← efn163] at hP hD
                      have hP : va_P (dC, dI) vwCl (wd_90cd99f9 h0 v0 r0 v1 v2 v3 v4 r1 r2 r3 r4 r5 r6 r7 v5 v6 r8 r9 r10 r11 v7 h1 r12 v8 v9 h2 r13 v10 v11 r14 v12 v13 r15 v14 w15 r16 x156 x157 h3 h4 r17 r18 r19 r20 v18 r21 r22 r23 v19 h1 g0 f20 h2 g1 f21 h3 g2 fn158 h4 g3 fn163) H := hP
                      have hD : va_D A (wd_90cd99f9 h0 v0 r0 v1 v2 v3 v4 r1 r2 r3 r4 r5 r6 r7 v5 v6 r8 r9 r10 r11 v7 h1 r12 v8 v9 h2 r13 v10 v11 r14 v12 v13 r15 v14 w15 r16 x156 x157 h3 h4 r17 r18 r19 r20 v18 r21 r22 r23 v19 h1 g0 f20 h2 g1 f21 h3 g2 fn158 h4 g3 fn163) := hD
                      exact hJ137 x156 x157 fn158 fn163 H locs ls hP hD hS (lv_sub hl [0, 1, 2, 3, 4, 5, 6] rfl)
                    refine lv_icmp_ne (tgt := 179) hx hb dX12_tryShelf_172 (by decide) (fun c164 => ?_) (fun c164 => ?_)
                    · skip
                      have fc164 : ¬ (t150.toInt = ra151.toInt) := fun h9 => c164 (Int32.toInt_inj.mp h9)
                      have r1c164 := Int32.toInt_lt t150
                      have r2c164 := Int32.toInt_lt ra151
                      have r3c164 := Int32.le_toInt t150
                      have r4c164 := Int32.le_toInt ra151
                      refine lv_iconst (v := 0) hx hb dX12_tryShelf_179 (by decide) ?_
                      exact hJ153 0 H locs ls (by decide) (by decide) hP hD hS (lv_sub hl [0, 1, 2, 3, 4, 5, 6] rfl)
                    · skip
                      have fc164 : t150.toInt = ra151.toInt := congrArg Int32.toInt c164
                      have r1c164 := Int32.toInt_lt t150
                      have r2c164 := Int32.toInt_lt ra151
                      have r3c164 := Int32.le_toInt t150
                      have r4c164 := Int32.le_toInt ra151
                      refine lv_iconst (v := 1) hx hb dX12_tryShelf_175 (by decide) ?_
                      refine lv_goto (tgt := 180) hx hb dX12_tryShelf_176 (by decide) ?_
                      exact hJ153 1 H locs ls (by decide) (by decide) hP hD hS (lv_sub hl [0, 1, 2, 3, 4, 5, 6] rfl)
                · skip
                  have fc139 : ¬ (v26.toInt = 0) := fun h9 => c139 (Int32.toInt_inj.mp h9)
                  refine lv_aload_n hx hb dX12_tryShelf_87 rfl (lv_at hl 2 rfl) ?_
                  refine va_get (D := (dC, dI)) (ci := 12) (v := .ref h4) (C := RX12) (T := TX12) (N := 48) hx hb hts (fun _ h => List.mem_cons_of_mem _ (List.mem_append_right _ h)) hown hK hP 0 rfl rfl 38 (by decide) (hts (.fieldLink RX12 77 "LeftArgumentsModel" "room" "[I") (List.mem_cons_of_mem _ (List.mem_append_left _ (List.mem_of_getElem? (i := 31) rfl)))) (fun _ h9 => h9) rfl dX12_tryShelf_88 ?_
                  refine lv_iload hx hb dX12_tryShelf_91 (lv_at hl 0 rfl) ?_
                  refine va_iald hx hb hK hP 4 3 rfl rfl (vp_in_iff.mpr ⟨by omega, by omega⟩) dX12_tryShelf_93 ?_
                  refine lv_topi (fun t165 et165 => ?_)
                  refine lv_aload_n hx hb dX12_tryShelf_94 rfl (lv_at hl 2 rfl) ?_
                  refine lv_iload_n hx hb dX12_tryShelf_95 rfl (lv_at hl 3 rfl) ?_
                  refine lv_iconst (v := 0) hx hb dX12_tryShelf_96 (by decide) ?_
                  have hPc := hP.sub (ws' := (wd_5013416a h0 v0 r0 v1 v2 v3 v4 r1 r2 r3 r4 r5 r6 r7 v5 v6 r8 r9 r10 r11 v7 h1 r12 v8 v9 h2 r13 v10 v11 r14 v12 v13 r15 v14 w15 r16 x122 x123 h3 h4 r17 r18 r19 r20 v18 r21 r22 r23 v19 h2 g1 f21)) [0, 2] rfl
                  have hDc := hD.sub (ws' := (wd_5013416a h0 v0 r0 v1 v2 v3 v4 r1 r2 r3 r4 r5 r6 r7 v5 v6 r8 r9 r10 r11 v7 h1 r12 v8 v9 h2 r13 v10 v11 r14 v12 v13 r15 v14 w15 r16 x122 x123 h3 h4 r17 r18 r19 r20 v18 r21 r22 r23 v19 h2 g1 f21)) [0, 2] (by decide) rfl
                  have hKc := hK.sub (tys' := [(g1, .int)]) [1] rfl
                  have hFc := va_free (wc := (wd_5013416a h0 v0 r0 v1 v2 v3 v4 r1 r2 r3 r4 r5 r6 r7 v5 v6 r8 r9 r10 r11 v7 h1 r12 v8 v9 h2 r13 v10 v11 r14 v12 v13 r15 v14 w15 r16 x122 x123 h3 h4 r17 r18 r19 r20 v18 r21 r22 r23 v19 h2 g1 f21)) hD hS hA [0, 2] rfl
                  refine va_calli (va_runV (As := [.int 2, .int 0]) (rest := [.int t165]) ⟨hx, hb, hml, hown, hts⟩ (k_X12_of_3 l dC dI h0 h2 v0 r0 v1 v2 v3 v4 r1 r2 r3 r4 r5 r6 r7 v5 v6 r8 r9 r10 r11 v7 h1 r12 v8 v9 r13 v10 v11 r14 v12 v13 r15 v14 w15 r16 x122 x123 h3 h4 r17 r18 r19 r20 v18 r21 r22 r23 v19 g1 f21 2 ⟨i_v1a, i_v1b⟩ ⟨i_v5a, i_v5b⟩ ⟨i_v6a, i_v6b⟩ ⟨i_v7a, i_v7b⟩ ⟨i_v8a, i_v8b⟩ ⟨i_v9a, i_v9b⟩ ⟨i_v10a, i_v10b⟩ ⟨i_v14a, i_v14b⟩ ⟨i_v18a, i_v18b⟩ ⟨i_v19a, i_v19b⟩ ⟨by decide, by decide⟩ ia_f21.1 H.size) (cwV 2 hts g_X12_tryShelf_6_2 rfl rfl rfl (by decide +kernel) ⟨Nat.le_of_ble_eq_true rfl, Nat.le_of_ble_eq_true rfl⟩) (pv_PV12 hPc hKc hDc (q0 := 0) rfl) rfl rfl hl.1 rfl (lv_room (Nat.le_of_ble_eq_true rfl)) dX12_tryShelf_97 ⟨Nat.le_of_ble_eq_true rfl, Nat.le_of_ble_eq_true rfl⟩) hS (fun q _ h => hFc q h) hFc (fun ra166 u t H1 locs ht hvm hwra166 hB hz1 hk1 hS => ?_)
                  try rw [hwra166] at hB
                  have hkra166_0 : ((2 : Int32)).toInt = 2 := by decide
                  obtain ⟨pt0_ra166, pt1_ra166, pt2_ra166, hP1, hK1, hD1⟩ := hB
                  rw [ht] at hP1
                  obtain ⟨hP2, hD2⟩ := va_join (wr := (wd_20b67a68 h1 g0 f20 h3 g2 fn124 h4 g3 fn125)) (w1 := (wd_5013416a h0 v0 r0 v1 v2 v3 v4 r1 r2 r3 r4 r5 r6 r7 v5 v6 r8 r9 r10 r11 v7 h1 r12 v8 v9 h2 r13 v10 v11 r14 v12 v13 r15 v14 w15 r16 x122 x123 h3 h4 r17 r18 r19 r20 v18 r21 r22 r23 v19 h2 g1 f21)) hP hD [0, 2] [1, 3, 4] rfl rfl (by decide) (by decide) hk1 hFc hP1 hD1
                  clear hP hD hPc hDc hKc hFc hP1 hK1 hD1 hk1 hz1
                  generalize H1 = H at hP2 hS ⊢
                  have hP := hP2.sub (ws' := (wd_90cd99f9 h0 v0 r0 v1 v2 v3 v4 r1 r2 r3 r4 r5 r6 r7 v5 v6 r8 r9 r10 r11 v7 h1 r12 v8 v9 h2 r13 v10 v11 r14 v12 v13 r15 v14 w15 r16 x122 x123 h3 h4 r17 r18 r19 r20 v18 r21 r22 r23 v19 h1 g0 f20 h2 g1 f21 h3 g2 fn124 h4 g3 fn125)) [3, 0, 4, 1, 2] rfl
                  have hD := hD2.sub (ws' := (wd_90cd99f9 h0 v0 r0 v1 v2 v3 v4 r1 r2 r3 r4 r5 r6 r7 v5 v6 r8 r9 r10 r11 v7 h1 r12 v8 v9 h2 r13 v10 v11 r14 v12 v13 r15 v14 w15 r16 x122 x123 h3 h4 r17 r18 r19 r20 v18 r21 r22 r23 v19 h1 g0 f20 h2 g1 f21 h3 g2 fn124 h4 g3 fn125)) [3, 0, 4, 1, 2] (by decide) rfl
                  clear hP2 hD2
                  refine lv_iadd hx hb dX12_tryShelf_100 ?_
                  refine lv_topi (fun t167 et167 => ?_)
                  refine lv_aload_n hx hb dX12_tryShelf_101 rfl (lv_at hl 2 rfl) ?_
                  refine va_get (D := (dC, dI)) (ci := 12) (v := .ref h1) (C := RX12) (T := TX12) (N := 48) hx hb hts (fun _ h => List.mem_cons_of_mem _ (List.mem_append_right _ h)) hown hK hP 0 rfl rfl 20 (by decide) (hts (.fieldLink RX12 46 "LeftArgumentsModel" "rule" "[I") (List.mem_cons_of_mem _ (List.mem_append_left _ (List.mem_of_getElem? (i := 37) rfl)))) (fun _ h9 => h9) rfl dX12_tryShelf_102 ?_
                  refine lv_iconst (v := 0) hx hb dX12_tryShelf_105 (by decide) ?_
                  refine va_iald hx hb hK hP 1 0 rfl rfl (pv_c (x := 0) (n := 4) (by decide)) dX12_tryShelf_106 ?_
                  refine lv_topi (fun t168 et168 => ?_)
                  have gat168 : 0 ≤ t168.toInt := by rw [et168]; exact ia_f20.2
                  refine lv_icmp_gt (tgt := 202) hx hb dX12_tryShelf_107 (by decide) (fun c169 => ?_) (fun c169 => ?_)
                  · skip
                    have fc169 : t168.toInt < t167.toInt := Int32.lt_iff_toInt_lt.mp c169
                    have r1c169 := Int32.toInt_lt t167
                    have r2c169 := Int32.toInt_lt t168
                    have r3c169 := Int32.le_toInt t167
                    have r4c169 := Int32.le_toInt t168
                    exact hJ137 x122 x123 fn124 fn125 H locs ls hP hD hS (lv_sub hl [0, 1, 2, 3, 4, 5, 6] rfl)
                  · skip
                    have fc169 : ¬ (t168.toInt < t167.toInt) := fun h9 => c169 (Int32.lt_iff_toInt_lt.mpr h9)
                    have r1c169 := Int32.toInt_lt t167
                    have r2c169 := Int32.toInt_lt t168
                    have r3c169 := Int32.le_toInt t167
                    have r4c169 := Int32.le_toInt t168
                    refine lv_goto (tgt := 123) hx hb dX12_tryShelf_110 (by decide) ?_
                    refine lv_aload_n hx hb dX12_tryShelf_123 rfl (lv_at hl 2 rfl) ?_
                    refine va_get (D := (dC, dI)) (ci := 12) (v := .ref h4) (C := RX12) (T := TX12) (N := 48) hx hb hts (fun _ h => List.mem_cons_of_mem _ (List.mem_append_right _ h)) hown hK hP 0 rfl rfl 38 (by decide) (hts (.fieldLink RX12 77 "LeftArgumentsModel" "room" "[I") (List.mem_cons_of_mem _ (List.mem_append_left _ (List.mem_of_getElem? (i := 31) rfl)))) (fun _ h9 => h9) rfl dX12_tryShelf_124 ?_
                    refine lv_iload hx hb dX12_tryShelf_127 (lv_at hl 0 rfl) ?_
                    refine lv_dup2_11 hx hb dX12_tryShelf_129 rfl rfl ?_
                    refine va_iald hx hb hK hP 4 3 rfl rfl (vp_in_iff.mpr ⟨by omega, by omega⟩) dX12_tryShelf_130 ?_
                    refine lv_topi (fun t170 et170 => ?_)
                    have gmt170 : t170.toInt = t165.toInt := by rw [et170, et165]
                    refine lv_aload_n hx hb dX12_tryShelf_131 rfl (lv_at hl 2 rfl) ?_
                    refine lv_iload_n hx hb dX12_tryShelf_132 rfl (lv_at hl 3 rfl) ?_
                    refine lv_iconst (v := 0) hx hb dX12_tryShelf_133 (by decide) ?_
                    have hPc := hP.sub (ws' := (wd_5013416a h0 v0 r0 v1 v2 v3 v4 r1 r2 r3 r4 r5 r6 r7 v5 v6 r8 r9 r10 r11 v7 h1 r12 v8 v9 h2 r13 v10 v11 r14 v12 v13 r15 v14 w15 r16 x122 x123 h3 h4 r17 r18 r19 r20 v18 r21 r22 r23 v19 h2 g1 f21)) [0, 2] rfl
                    have hDc := hD.sub (ws' := (wd_5013416a h0 v0 r0 v1 v2 v3 v4 r1 r2 r3 r4 r5 r6 r7 v5 v6 r8 r9 r10 r11 v7 h1 r12 v8 v9 h2 r13 v10 v11 r14 v12 v13 r15 v14 w15 r16 x122 x123 h3 h4 r17 r18 r19 r20 v18 r21 r22 r23 v19 h2 g1 f21)) [0, 2] (by decide) rfl
                    have hKc := hK.sub (tys' := [(g1, .int)]) [1] rfl
                    have hFc := va_free (wc := (wd_5013416a h0 v0 r0 v1 v2 v3 v4 r1 r2 r3 r4 r5 r6 r7 v5 v6 r8 r9 r10 r11 v7 h1 r12 v8 v9 h2 r13 v10 v11 r14 v12 v13 r15 v14 w15 r16 x122 x123 h3 h4 r17 r18 r19 r20 v18 r21 r22 r23 v19 h2 g1 f21)) hD hS hA [0, 2] rfl
                    refine va_calli (va_runV (As := [.int 2, .int 0]) (rest := [.int t170, .int x121, .ref h4]) ⟨hx, hb, hml, hown, hts⟩ (k_X12_of_3 l dC dI h0 h2 v0 r0 v1 v2 v3 v4 r1 r2 r3 r4 r5 r6 r7 v5 v6 r8 r9 r10 r11 v7 h1 r12 v8 v9 r13 v10 v11 r14 v12 v13 r15 v14 w15 r16 x122 x123 h3 h4 r17 r18 r19 r20 v18 r21 r22 r23 v19 g1 f21 2 ⟨i_v1a, i_v1b⟩ ⟨i_v5a, i_v5b⟩ ⟨i_v6a, i_v6b⟩ ⟨i_v7a, i_v7b⟩ ⟨i_v8a, i_v8b⟩ ⟨i_v9a, i_v9b⟩ ⟨i_v10a, i_v10b⟩ ⟨i_v14a, i_v14b⟩ ⟨i_v18a, i_v18b⟩ ⟨i_v19a, i_v19b⟩ ⟨by decide, by decide⟩ ia_f21.1 H.size) (cwV 2 hts g_X12_tryShelf_6_2 rfl rfl rfl (by decide +kernel) ⟨Nat.le_of_ble_eq_true rfl, Nat.le_of_ble_eq_true rfl⟩) (pv_PV12 hPc hKc hDc (q0 := 0) rfl) rfl rfl hl.1 rfl (lv_room (Nat.le_of_ble_eq_true rfl)) dX12_tryShelf_134 ⟨Nat.le_of_ble_eq_true rfl, Nat.le_of_ble_eq_true rfl⟩) hS (fun q _ h => hFc q h) hFc (fun ra171 u t H1 locs ht hvm hwra171 hB hz1 hk1 hS => ?_)
                    try rw [hwra171] at hB
                    have hkra171_0 : ((2 : Int32)).toInt = 2 := by decide
                    obtain ⟨pt0_ra171, pt1_ra171, pt2_ra171, hP1, hK1, hD1⟩ := hB
                    rw [ht] at hP1
                    obtain ⟨hP2, hD2⟩ := va_join (wr := (wd_20b67a68 h1 g0 f20 h3 g2 fn124 h4 g3 fn125)) (w1 := (wd_5013416a h0 v0 r0 v1 v2 v3 v4 r1 r2 r3 r4 r5 r6 r7 v5 v6 r8 r9 r10 r11 v7 h1 r12 v8 v9 h2 r13 v10 v11 r14 v12 v13 r15 v14 w15 r16 x122 x123 h3 h4 r17 r18 r19 r20 v18 r21 r22 r23 v19 h2 g1 f21)) hP hD [0, 2] [1, 3, 4] rfl rfl (by decide) (by decide) hk1 hFc hP1 hD1
                    clear hP hD hPc hDc hKc hFc hP1 hK1 hD1 hk1 hz1
                    generalize H1 = H at hP2 hS ⊢
                    have hP := hP2.sub (ws' := (wd_90cd99f9 h0 v0 r0 v1 v2 v3 v4 r1 r2 r3 r4 r5 r6 r7 v5 v6 r8 r9 r10 r11 v7 h1 r12 v8 v9 h2 r13 v10 v11 r14 v12 v13 r15 v14 w15 r16 x122 x123 h3 h4 r17 r18 r19 r20 v18 r21 r22 r23 v19 h1 g0 f20 h2 g1 f21 h3 g2 fn124 h4 g3 fn125)) [3, 0, 4, 1, 2] rfl
                    have hD := hD2.sub (ws' := (wd_90cd99f9 h0 v0 r0 v1 v2 v3 v4 r1 r2 r3 r4 r5 r6 r7 v5 v6 r8 r9 r10 r11 v7 h1 r12 v8 v9 h2 r13 v10 v11 r14 v12 v13 r15 v14 w15 r16 x122 x123 h3 h4 r17 r18 r19 r20 v18 r21 r22 r23 v19 h1 g0 f20 h2 g1 f21 h3 g2 fn124 h4 g3 fn125)) [3, 0, 4, 1, 2] (by decide) rfl
                    clear hP2 hD2
                    refine lv_iadd hx hb dX12_tryShelf_137 ?_
                    refine lv_topi (fun t172 et172 => ?_)
                    refine va_iast hx hb hK hP hD hS 4 3 rfl rfl (vp_in_iff.mpr ⟨by omega, by omega⟩) dX12_tryShelf_138 (fun H locs hP hD hS => ?_)
                    obtain ⟨fn173, efn173⟩ : ∃ g : Nat → Int32, g = upd fn125 (Int32.toNatClampNeg x121) t172 := ⟨_, rfl⟩
                    rw [← efn173] at hP hD
                    have hP : va_P (dC, dI) vwCl (wd_90cd99f9 h0 v0 r0 v1 v2 v3 v4 r1 r2 r3 r4 r5 r6 r7 v5 v6 r8 r9 r10 r11 v7 h1 r12 v8 v9 h2 r13 v10 v11 r14 v12 v13 r15 v14 w15 r16 x122 x123 h3 h4 r17 r18 r19 r20 v18 r21 r22 r23 v19 h1 g0 f20 h2 g1 f21 h3 g2 fn124 h4 g3 fn173) H := hP
                    have hD : va_D A (wd_90cd99f9 h0 v0 r0 v1 v2 v3 v4 r1 r2 r3 r4 r5 r6 r7 v5 v6 r8 r9 r10 r11 v7 h1 r12 v8 v9 h2 r13 v10 v11 r14 v12 v13 r15 v14 w15 r16 x122 x123 h3 h4 r17 r18 r19 r20 v18 r21 r22 r23 v19 h1 g0 f20 h2 g1 f21 h3 g2 fn124 h4 g3 fn173) := hD
                    refine lv_aload_n hx hb dX12_tryShelf_139 rfl (lv_at hl 2 rfl) ?_
                    refine va_get (D := (dC, dI)) (ci := 12) (v := .ref h3) (C := RX12) (T := TX12) (N := 48) hx hb hts (fun _ h => List.mem_cons_of_mem _ (List.mem_append_right _ h)) hown hK hP 0 rfl rfl 37 (by decide) (hts (.fieldLink RX12 74 "LeftArgumentsModel" "onShelf" "[I") (List.mem_cons_of_mem _ (List.mem_append_left _ (List.mem_of_getElem? (i := 15) rfl)))) (fun _ h9 => h9) rfl dX12_tryShelf_140 ?_
                    refine lv_iload_n hx hb dX12_tryShelf_143 rfl (lv_at hl 3 rfl) ?_
                    refine lv_iload hx hb dX12_tryShelf_144 (lv_at hl 0 rfl) ?_
                    refine va_iast hx hb hK hP hD hS 3 2 rfl rfl (pv_c (x := 2) (n := 8) (by decide)) dX12_tryShelf_146 (fun H locs hP hD hS => ?_)
                    obtain ⟨fn174, efn174⟩ : ∃ g : Nat → Int32, g = upd fn124 (Int32.toNatClampNeg 2) x121 := ⟨_, rfl⟩
                    rw [← efn174] at hP hD
                    have hP : va_P (dC, dI) vwCl (wd_90cd99f9 h0 v0 r0 v1 v2 v3 v4 r1 r2 r3 r4 r5 r6 r7 v5 v6 r8 r9 r10 r11 v7 h1 r12 v8 v9 h2 r13 v10 v11 r14 v12 v13 r15 v14 w15 r16 x122 x123 h3 h4 r17 r18 r19 r20 v18 r21 r22 r23 v19 h1 g0 f20 h2 g1 f21 h3 g2 fn174 h4 g3 fn173) H := hP
                    have hD : va_D A (wd_90cd99f9 h0 v0 r0 v1 v2 v3 v4 r1 r2 r3 r4 r5 r6 r7 v5 v6 r8 r9 r10 r11 v7 h1 r12 v8 v9 h2 r13 v10 v11 r14 v12 v13 r15 v14 w15 r16 x122 x123 h3 h4 r17 r18 r19 r20 v18 r21 r22 r23 v19 h1 g0 f20 h2 g1 f21 h3 g2 fn174 h4 g3 fn173) := hD
                    refine lv_aload_n hx hb dX12_tryShelf_147 rfl (lv_at hl 2 rfl) ?_
                    refine lv_iload_n hx hb dX12_tryShelf_148 rfl (lv_at hl 3 rfl) ?_
                    refine lv_iconst (v := 1) hx hb dX12_tryShelf_149 (by decide) ?_
                    refine lv_iadd hx hb dX12_tryShelf_150 ?_
                    refine lv_topi (fun tv175 etv175 => ?_)
                    obtain rfl : tv175 = (3 : Int32) := etv175.trans (by first | rfl | decide)
                    refine lv_bipush (v := 10) hx hb dX12_tryShelf_151 (by decide) ?_
                    refine lv_iload_n hx hb dX12_tryShelf_153 rfl (lv_at hl 4 rfl) ?_
                    refine lv_imul hx hb dX12_tryShelf_154 ?_
                    refine lv_topi (fun t176 et176 => ?_)
                    refine lv_iload hx hb dX12_tryShelf_155 (lv_at hl 0 rfl) ?_
                    refine lv_iadd hx hb dX12_tryShelf_157 ?_
                    refine lv_topi (fun t177 et177 => ?_)
                    refine lv_iload_n hx hb dX12_tryShelf_158 rfl (lv_at hl 5 rfl) ?_
                    refine lv_aload_n hx hb dX12_tryShelf_159 rfl (lv_at hl 2 rfl) ?_
                    refine va_get (D := (dC, dI)) (ci := 12) (v := .ref h4) (C := RX12) (T := TX12) (N := 48) hx hb hts (fun _ h => List.mem_cons_of_mem _ (List.mem_append_right _ h)) hown hK hP 0 rfl rfl 38 (by decide) (hts (.fieldLink RX12 77 "LeftArgumentsModel" "room" "[I") (List.mem_cons_of_mem _ (List.mem_append_left _ (List.mem_of_getElem? (i := 31) rfl)))) (fun _ h9 => h9) rfl dX12_tryShelf_160 ?_
                    refine lv_iload hx hb dX12_tryShelf_163 (lv_at hl 0 rfl) ?_
                    refine va_iald hx hb hK hP 4 3 rfl rfl (vp_in_iff.mpr ⟨by omega, by omega⟩) dX12_tryShelf_165 ?_
                    refine lv_topi (fun t178 et178 => ?_)
                    refine lv_aload_n hx hb dX12_tryShelf_166 rfl (lv_at hl 2 rfl) ?_
                    refine lv_iload_n hx hb dX12_tryShelf_167 rfl (lv_at hl 3 rfl) ?_
                    refine lv_iconst (v := 0) hx hb dX12_tryShelf_168 (by decide) ?_
                    have hPc := hP.sub (ws' := (wd_5013416a h0 v0 r0 v1 v2 v3 v4 r1 r2 r3 r4 r5 r6 r7 v5 v6 r8 r9 r10 r11 v7 h1 r12 v8 v9 h2 r13 v10 v11 r14 v12 v13 r15 v14 w15 r16 x122 x123 h3 h4 r17 r18 r19 r20 v18 r21 r22 r23 v19 h2 g1 f21)) [0, 2] rfl
                    have hDc := hD.sub (ws' := (wd_5013416a h0 v0 r0 v1 v2 v3 v4 r1 r2 r3 r4 r5 r6 r7 v5 v6 r8 r9 r10 r11 v7 h1 r12 v8 v9 h2 r13 v10 v11 r14 v12 v13 r15 v14 w15 r16 x122 x123 h3 h4 r17 r18 r19 r20 v18 r21 r22 r23 v19 h2 g1 f21)) [0, 2] (by decide) rfl
                    have hKc := hK.sub (tys' := [(g1, .int)]) [1] rfl
                    have hFc := va_free (wc := (wd_5013416a h0 v0 r0 v1 v2 v3 v4 r1 r2 r3 r4 r5 r6 r7 v5 v6 r8 r9 r10 r11 v7 h1 r12 v8 v9 h2 r13 v10 v11 r14 v12 v13 r15 v14 w15 r16 x122 x123 h3 h4 r17 r18 r19 r20 v18 r21 r22 r23 v19 h2 g1 f21)) hD hS hA [0, 2] rfl
                    refine va_calli (va_runV (As := [.int 2, .int 0]) (rest := [.int t178, .int v25, .int t177, .int 3, .ref h0]) ⟨hx, hb, hml, hown, hts⟩ (k_X12_of_3 l dC dI h0 h2 v0 r0 v1 v2 v3 v4 r1 r2 r3 r4 r5 r6 r7 v5 v6 r8 r9 r10 r11 v7 h1 r12 v8 v9 r13 v10 v11 r14 v12 v13 r15 v14 w15 r16 x122 x123 h3 h4 r17 r18 r19 r20 v18 r21 r22 r23 v19 g1 f21 2 ⟨i_v1a, i_v1b⟩ ⟨i_v5a, i_v5b⟩ ⟨i_v6a, i_v6b⟩ ⟨i_v7a, i_v7b⟩ ⟨i_v8a, i_v8b⟩ ⟨i_v9a, i_v9b⟩ ⟨i_v10a, i_v10b⟩ ⟨i_v14a, i_v14b⟩ ⟨i_v18a, i_v18b⟩ ⟨i_v19a, i_v19b⟩ ⟨by decide, by decide⟩ ia_f21.1 H.size) (cwV 2 hts g_X12_tryShelf_6_2 rfl rfl rfl (by decide +kernel) ⟨Nat.le_of_ble_eq_true rfl, Nat.le_of_ble_eq_true rfl⟩) (pv_PV12 hPc hKc hDc (q0 := 0) rfl) rfl rfl hl.1 rfl (lv_room (Nat.le_of_ble_eq_true rfl)) dX12_tryShelf_169 ⟨Nat.le_of_ble_eq_true rfl, Nat.le_of_ble_eq_true rfl⟩) hS (fun q _ h => hFc q h) hFc (fun ra179 u t H1 locs ht hvm hwra179 hB hz1 hk1 hS => ?_)
                    try rw [hwra179] at hB
                    have hkra179_0 : ((2 : Int32)).toInt = 2 := by decide
                    obtain ⟨pt0_ra179, pt1_ra179, pt2_ra179, hP1, hK1, hD1⟩ := hB
                    rw [ht] at hP1
                    obtain ⟨hP2, hD2⟩ := va_join (wr := (wd_20b67a68 h1 g0 f20 h3 g2 fn174 h4 g3 fn173)) (w1 := (wd_5013416a h0 v0 r0 v1 v2 v3 v4 r1 r2 r3 r4 r5 r6 r7 v5 v6 r8 r9 r10 r11 v7 h1 r12 v8 v9 h2 r13 v10 v11 r14 v12 v13 r15 v14 w15 r16 x122 x123 h3 h4 r17 r18 r19 r20 v18 r21 r22 r23 v19 h2 g1 f21)) hP hD [0, 2] [1, 3, 4] rfl rfl (by decide) (by decide) hk1 hFc hP1 hD1
                    clear hP hD hPc hDc hKc hFc hP1 hK1 hD1 hk1 hz1
                    generalize H1 = H at hP2 hS ⊢
                    have hP := hP2.sub (ws' := (wd_90cd99f9 h0 v0 r0 v1 v2 v3 v4 r1 r2 r3 r4 r5 r6 r7 v5 v6 r8 r9 r10 r11 v7 h1 r12 v8 v9 h2 r13 v10 v11 r14 v12 v13 r15 v14 w15 r16 x122 x123 h3 h4 r17 r18 r19 r20 v18 r21 r22 r23 v19 h1 g0 f20 h2 g1 f21 h3 g2 fn174 h4 g3 fn173)) [3, 0, 4, 1, 2] rfl
                    have hD := hD2.sub (ws' := (wd_90cd99f9 h0 v0 r0 v1 v2 v3 v4 r1 r2 r3 r4 r5 r6 r7 v5 v6 r8 r9 r10 r11 v7 h1 r12 v8 v9 h2 r13 v10 v11 r14 v12 v13 r15 v14 w15 r16 x122 x123 h3 h4 r17 r18 r19 r20 v18 r21 r22 r23 v19 h1 g0 f20 h2 g1 f21 h3 g2 fn174 h4 g3 fn173)) [3, 0, 4, 1, 2] (by decide) rfl
                    clear hP2 hD2
                    have hJ181 : ∀ (x180 : Int32) (H : Heap) (locs : List Loc) (ls : Array Slot), 0 ≤ x180.toInt → x180.toInt ≤ 1 → va_P (dC, dI) vwCl (wd_90cd99f9 h0 v0 r0 v1 v2 v3 v4 r1 r2 r3 r4 r5 r6 r7 v5 v6 r8 r9 r10 r11 v7 h1 r12 v8 v9 h2 r13 v10 v11 r14 v12 v13 r15 v14 w15 r16 x122 x123 h3 h4 r17 r18 r19 r20 v18 r21 r22 r23 v19 h1 g0 f20 h2 g1 f21 h3 g2 fn174 h4 g3 fn173) H → va_D A (wd_90cd99f9 h0 v0 r0 v1 v2 v3 v4 r1 r2 r3 r4 r5 r6 r7 v5 v6 r8 r9 r10 r11 v7 h1 r12 v8 v9 h2 r13 v10 v11 r14 v12 v13 r15 v14 w15 r16 x122 x123 h3 h4 r17 r18 r19 r20 v18 r21 r22 r23 v19 h1 g0 f20 h2 g1 f21 h3 g2 fn174 h4 g3 fn173) → va_S A s.heap H locs → lv_has ls 7 [(6, .int x121), (5, .int x104), (0, .ref h0), (1, .int 2), (2, .int v24), (3, .int v25), (4, .int v26)] → W p l e ({ frames := 9, cells := 0, slots := 0, locals := 218 }) s m ([.ref h0, .int 2, .int v24, .int v25, .int v26] : List Value).toArray below meth c H locs 0 0 Q (F0 m 180 ls [.int x180, .int v25, .int t177, .int 3, .ref h0]) := by
                      intro x180 H locs ls qa_x180 qb_x180 hP hD hS hl
                      refine lv_iadd hx hb dX12_tryShelf_180 ?_
                      refine lv_topi (fun t182 et182 => ?_)
                      have r5t182v25 := Int32.le_toInt v25; have r6t182v25 := Int32.toInt_lt v25
                      have gt182 : t182.toInt = v25.toInt + x180.toInt := pv_add (a := v25.toInt) (b := x180.toInt) et182 rfl rfl (by omega) (by omega)
                      refine lv_iload hx hb dX12_tryShelf_181 (lv_at hl 6 rfl) ?_
                      have hPc := hP.sub (ws' := (wd_90cd99f9 h0 v0 r0 v1 v2 v3 v4 r1 r2 r3 r4 r5 r6 r7 v5 v6 r8 r9 r10 r11 v7 h1 r12 v8 v9 h2 r13 v10 v11 r14 v12 v13 r15 v14 w15 r16 x122 x123 h3 h4 r17 r18 r19 r20 v18 r21 r22 r23 v19 h1 g0 f20 h2 g1 f21 h3 g2 fn174 h4 g3 fn173)) [0, 1, 2, 3, 4] rfl
                      have hDc := hD.sub (ws' := (wd_90cd99f9 h0 v0 r0 v1 v2 v3 v4 r1 r2 r3 r4 r5 r6 r7 v5 v6 r8 r9 r10 r11 v7 h1 r12 v8 v9 h2 r13 v10 v11 r14 v12 v13 r15 v14 w15 r16 x122 x123 h3 h4 r17 r18 r19 r20 v18 r21 r22 r23 v19 h1 g0 f20 h2 g1 f21 h3 g2 fn174 h4 g3 fn173)) [0, 1, 2, 3, 4] (by decide) rfl
                      have hKc := hK.sub (tys' := [(g0, .int), (g1, .int), (g2, .int), (g3, .int)]) [0, 1, 2, 3] rfl
                      have hFc := va_free (wc := (wd_90cd99f9 h0 v0 r0 v1 v2 v3 v4 r1 r2 r3 r4 r5 r6 r7 v5 v6 r8 r9 r10 r11 v7 h1 r12 v8 v9 h2 r13 v10 v11 r14 v12 v13 r15 v14 w15 r16 x122 x123 h3 h4 r17 r18 r19 r20 v18 r21 r22 r23 v19 h1 g0 f20 h2 g1 f21 h3 g2 fn174 h4 g3 fn173)) hD hS hA [0, 1, 2, 3, 4] rfl
                      refine va_callv (va_runV (As := [.int 3, .int t177, .int t182, .int v26]) (rest := []) ⟨hx, hb, hml, hown, hts⟩ (k_X12_tryShelf_5 l dC dI h0 h1 h2 h3 h4 v0 r0 v1 v2 v3 v4 r1 r2 r3 r4 r5 r6 r7 v5 v6 r8 r9 r10 r11 v7 r12 v8 v9 r13 v10 v11 r14 v12 v13 r15 v14 w15 r16 x122 x123 r17 r18 r19 r20 v18 r21 r22 r23 v19 g0 f20 g1 f21 g2 fn174 g3 fn173 t177 t182 v26 ⟨i_v1a, i_v1b⟩ ⟨i_v5a, i_v5b⟩ ⟨i_v6a, i_v6b⟩ ⟨i_v7a, i_v7b⟩ ⟨i_v8a, i_v8b⟩ ⟨i_v9a, i_v9b⟩ ⟨i_v10a, i_v10b⟩ ⟨i_v14a, i_v14b⟩ ⟨i_v18a, i_v18b⟩ ⟨i_v19a, i_v19b⟩ ⟨i_v26a, i_v26b⟩ ia_f20 ia_f21 H.size) (cwV 4 hts g_X12_tryShelf_6_4 rfl rfl rfl (by decide +kernel) ⟨Nat.le_of_ble_eq_true rfl, Nat.le_of_ble_eq_true rfl⟩) (pv_PV12 hPc hKc hDc (q0 := 0) rfl) rfl rfl hl.1 rfl (lv_room (Nat.le_of_ble_eq_true rfl)) dX12_tryShelf_183 ⟨Nat.le_of_ble_eq_true rfl, Nat.le_of_ble_eq_true rfl⟩) hS (fun q _ h => hFc q h) hFc (fun u t H1 locs ht hvm hwra183 hB hz1 hk1 hS => ?_)
                      obtain ⟨x184, x185, fn186, fn187, hP1, hK1, hD1⟩ := hB
                      rw [ht] at hP1
                      obtain ⟨hP2, hD2⟩ := va_join (wr := []) (w1 := (wd_90cd99f9 h0 v0 r0 v1 v2 v3 v4 r1 r2 r3 r4 r5 r6 r7 v5 v6 r8 r9 r10 r11 v7 h1 r12 v8 v9 h2 r13 v10 v11 r14 v12 v13 r15 v14 w15 r16 x184 x185 h3 h4 r17 r18 r19 r20 v18 r21 r22 r23 v19 h1 g0 f20 h2 g1 f21 h3 g2 fn186 h4 g3 fn187)) hP hD [0, 1, 2, 3, 4] [] rfl rfl (by decide) (by decide) hk1 hFc hP1 hD1
                      clear hP hD hPc hDc hKc hFc hP1 hK1 hD1 hk1 hz1
                      generalize H1 = H at hP2 hS ⊢
                      have hP : va_P (dC, dI) vwCl (wd_90cd99f9 h0 v0 r0 v1 v2 v3 v4 r1 r2 r3 r4 r5 r6 r7 v5 v6 r8 r9 r10 r11 v7 h1 r12 v8 v9 h2 r13 v10 v11 r14 v12 v13 r15 v14 w15 r16 x184 x185 h3 h4 r17 r18 r19 r20 v18 r21 r22 r23 v19 h1 g0 f20 h2 g1 f21 h3 g2 fn186 h4 g3 fn187) H := hP2
                      have hD : va_D A (wd_90cd99f9 h0 v0 r0 v1 v2 v3 v4 r1 r2 r3 r4 r5 r6 r7 v5 v6 r8 r9 r10 r11 v7 h1 r12 v8 v9 h2 r13 v10 v11 r14 v12 v13 r15 v14 w15 r16 x184 x185 h3 h4 r17 r18 r19 r20 v18 r21 r22 r23 v19 h1 g0 f20 h2 g1 f21 h3 g2 fn186 h4 g3 fn187) := hD2
                      clear hP2 hD2
                      refine lv_aload_n hx hb dX12_tryShelf_186 rfl (lv_at hl 2 rfl) ?_
                      refine va_get (D := (dC, dI)) (ci := 12) (v := .ref h4) (C := RX12) (T := TX12) (N := 48) hx hb hts (fun _ h => List.mem_cons_of_mem _ (List.mem_append_right _ h)) hown hK hP 0 rfl rfl 38 (by decide) (hts (.fieldLink RX12 77 "LeftArgumentsModel" "room" "[I") (List.mem_cons_of_mem _ (List.mem_append_left _ (List.mem_of_getElem? (i := 31) rfl)))) (fun _ h9 => h9) rfl dX12_tryShelf_187 ?_
                      refine lv_iload hx hb dX12_tryShelf_190 (lv_at hl 0 rfl) ?_
                      refine lv_dup2_11 hx hb dX12_tryShelf_192 rfl rfl ?_
                      refine va_iald hx hb hK hP 4 3 rfl rfl (vp_in_iff.mpr ⟨by omega, by omega⟩) dX12_tryShelf_193 ?_
                      refine lv_topi (fun t188 et188 => ?_)
                      refine lv_aload_n hx hb dX12_tryShelf_194 rfl (lv_at hl 2 rfl) ?_
                      refine lv_iload_n hx hb dX12_tryShelf_195 rfl (lv_at hl 3 rfl) ?_
                      refine lv_iconst (v := 0) hx hb dX12_tryShelf_196 (by decide) ?_
                      have hPc := hP.sub (ws' := (wd_5013416a h0 v0 r0 v1 v2 v3 v4 r1 r2 r3 r4 r5 r6 r7 v5 v6 r8 r9 r10 r11 v7 h1 r12 v8 v9 h2 r13 v10 v11 r14 v12 v13 r15 v14 w15 r16 x184 x185 h3 h4 r17 r18 r19 r20 v18 r21 r22 r23 v19 h2 g1 f21)) [0, 2] rfl
                      have hDc := hD.sub (ws' := (wd_5013416a h0 v0 r0 v1 v2 v3 v4 r1 r2 r3 r4 r5 r6 r7 v5 v6 r8 r9 r10 r11 v7 h1 r12 v8 v9 h2 r13 v10 v11 r14 v12 v13 r15 v14 w15 r16 x184 x185 h3 h4 r17 r18 r19 r20 v18 r21 r22 r23 v19 h2 g1 f21)) [0, 2] (by decide) rfl
                      have hKc := hK.sub (tys' := [(g1, .int)]) [1] rfl
                      have hFc := va_free (wc := (wd_5013416a h0 v0 r0 v1 v2 v3 v4 r1 r2 r3 r4 r5 r6 r7 v5 v6 r8 r9 r10 r11 v7 h1 r12 v8 v9 h2 r13 v10 v11 r14 v12 v13 r15 v14 w15 r16 x184 x185 h3 h4 r17 r18 r19 r20 v18 r21 r22 r23 v19 h2 g1 f21)) hD hS hA [0, 2] rfl
                      refine va_calli (va_runV (As := [.int 2, .int 0]) (rest := [.int t188, .int x121, .ref h4]) ⟨hx, hb, hml, hown, hts⟩ (k_X12_of_3 l dC dI h0 h2 v0 r0 v1 v2 v3 v4 r1 r2 r3 r4 r5 r6 r7 v5 v6 r8 r9 r10 r11 v7 h1 r12 v8 v9 r13 v10 v11 r14 v12 v13 r15 v14 w15 r16 x184 x185 h3 h4 r17 r18 r19 r20 v18 r21 r22 r23 v19 g1 f21 2 ⟨i_v1a, i_v1b⟩ ⟨i_v5a, i_v5b⟩ ⟨i_v6a, i_v6b⟩ ⟨i_v7a, i_v7b⟩ ⟨i_v8a, i_v8b⟩ ⟨i_v9a, i_v9b⟩ ⟨i_v10a, i_v10b⟩ ⟨i_v14a, i_v14b⟩ ⟨i_v18a, i_v18b⟩ ⟨i_v19a, i_v19b⟩ ⟨by decide, by decide⟩ ia_f21.1 H.size) (cwV 2 hts g_X12_tryShelf_6_2 rfl rfl rfl (by decide +kernel) ⟨Nat.le_of_ble_eq_true rfl, Nat.le_of_ble_eq_true rfl⟩) (pv_PV12 hPc hKc hDc (q0 := 0) rfl) rfl rfl hl.1 rfl (lv_room (Nat.le_of_ble_eq_true rfl)) dX12_tryShelf_197 ⟨Nat.le_of_ble_eq_true rfl, Nat.le_of_ble_eq_true rfl⟩) hS (fun q _ h => hFc q h) hFc (fun ra189 u t H1 locs ht hvm hwra189 hB hz1 hk1 hS => ?_)
                      try rw [hwra189] at hB
                      have hkra189_0 : ((2 : Int32)).toInt = 2 := by decide
                      obtain ⟨pt0_ra189, pt1_ra189, pt2_ra189, hP1, hK1, hD1⟩ := hB
                      rw [ht] at hP1
                      obtain ⟨hP2, hD2⟩ := va_join (wr := (wd_20b67a68 h1 g0 f20 h3 g2 fn186 h4 g3 fn187)) (w1 := (wd_5013416a h0 v0 r0 v1 v2 v3 v4 r1 r2 r3 r4 r5 r6 r7 v5 v6 r8 r9 r10 r11 v7 h1 r12 v8 v9 h2 r13 v10 v11 r14 v12 v13 r15 v14 w15 r16 x184 x185 h3 h4 r17 r18 r19 r20 v18 r21 r22 r23 v19 h2 g1 f21)) hP hD [0, 2] [1, 3, 4] rfl rfl (by decide) (by decide) hk1 hFc hP1 hD1
                      clear hP hD hPc hDc hKc hFc hP1 hK1 hD1 hk1 hz1
                      generalize H1 = H at hP2 hS ⊢
                      have hP := hP2.sub (ws' := (wd_90cd99f9 h0 v0 r0 v1 v2 v3 v4 r1 r2 r3 r4 r5 r6 r7 v5 v6 r8 r9 r10 r11 v7 h1 r12 v8 v9 h2 r13 v10 v11 r14 v12 v13 r15 v14 w15 r16 x184 x185 h3 h4 r17 r18 r19 r20 v18 r21 r22 r23 v19 h1 g0 f20 h2 g1 f21 h3 g2 fn186 h4 g3 fn187)) [3, 0, 4, 1, 2] rfl
                      have hD := hD2.sub (ws' := (wd_90cd99f9 h0 v0 r0 v1 v2 v3 v4 r1 r2 r3 r4 r5 r6 r7 v5 v6 r8 r9 r10 r11 v7 h1 r12 v8 v9 h2 r13 v10 v11 r14 v12 v13 r15 v14 w15 r16 x184 x185 h3 h4 r17 r18 r19 r20 v18 r21 r22 r23 v19 h1 g0 f20 h2 g1 f21 h3 g2 fn186 h4 g3 fn187)) [3, 0, 4, 1, 2] (by decide) rfl
                      clear hP2 hD2
                      refine lv_isub hx hb dX12_tryShelf_200 ?_
                      refine lv_topi (fun t190 et190 => ?_)
                      refine va_iast hx hb hK hP hD hS 4 3 rfl rfl (vp_in_iff.mpr ⟨by omega, by omega⟩) dX12_tryShelf_201 (fun H locs hP hD hS => ?_)
                      obtain ⟨fn191, efn191⟩ : ∃ g : Nat → Int32, g = upd fn187 (Int32.toNatClampNeg x121) t190 := ⟨_, rfl⟩
                      rw [← efn191] at hP hD
                      have hP : va_P (dC, dI) vwCl (wd_90cd99f9 h0 v0 r0 v1 v2 v3 v4 r1 r2 r3 r4 r5 r6 r7 v5 v6 r8 r9 r10 r11 v7 h1 r12 v8 v9 h2 r13 v10 v11 r14 v12 v13 r15 v14 w15 r16 x184 x185 h3 h4 r17 r18 r19 r20 v18 r21 r22 r23 v19 h1 g0 f20 h2 g1 f21 h3 g2 fn186 h4 g3 fn191) H := hP
                      have hD : va_D A (wd_90cd99f9 h0 v0 r0 v1 v2 v3 v4 r1 r2 r3 r4 r5 r6 r7 v5 v6 r8 r9 r10 r11 v7 h1 r12 v8 v9 h2 r13 v10 v11 r14 v12 v13 r15 v14 w15 r16 x184 x185 h3 h4 r17 r18 r19 r20 v18 r21 r22 r23 v19 h1 g0 f20 h2 g1 f21 h3 g2 fn186 h4 g3 fn191) := hD
                      exact hJ137 x184 x185 fn186 fn191 H locs ls hP hD hS (lv_sub hl [0, 1, 2, 3, 4, 5, 6] rfl)
                    refine lv_icmp_ne (tgt := 179) hx hb dX12_tryShelf_172 (by decide) (fun c192 => ?_) (fun c192 => ?_)
                    · skip
                      have fc192 : ¬ (t178.toInt = ra179.toInt) := fun h9 => c192 (Int32.toInt_inj.mp h9)
                      have r1c192 := Int32.toInt_lt t178
                      have r2c192 := Int32.toInt_lt ra179
                      have r3c192 := Int32.le_toInt t178
                      have r4c192 := Int32.le_toInt ra179
                      refine lv_iconst (v := 0) hx hb dX12_tryShelf_179 (by decide) ?_
                      exact hJ181 0 H locs ls (by decide) (by decide) hP hD hS (lv_sub hl [0, 1, 2, 3, 4, 5, 6] rfl)
                    · skip
                      have fc192 : t178.toInt = ra179.toInt := congrArg Int32.toInt c192
                      have r1c192 := Int32.toInt_lt t178
                      have r2c192 := Int32.toInt_lt ra179
                      have r3c192 := Int32.le_toInt t178
                      have r4c192 := Int32.le_toInt ra179
                      refine lv_iconst (v := 1) hx hb dX12_tryShelf_175 (by decide) ?_
                      refine lv_goto (tgt := 180) hx hb dX12_tryShelf_176 (by decide) ?_
                      exact hJ181 1 H locs ls (by decide) (by decide) hP hD hS (lv_sub hl [0, 1, 2, 3, 4, 5, 6] rfl)
          exact hL131 _ 0 v16 v17 f22 f23 H locs ls (by decide) (by decide) (Nat.lt_succ_self _) hP hD hS (lv_sub hl [0, 1, 2, 3, 4, 5, 6] rfl)
        refine lv_if_eq (tgt := 68) hx hb dX12_tryShelf_56 (by decide) (fun c193 => ?_) (fun c193 => ?_)
        · skip
          have fc193 : v26.toInt = 0 := congrArg Int32.toInt c193
          refine lv_bipush (v := 8) hx hb dX12_tryShelf_68 (by decide) ?_
          exact hJ105 8 H locs ls (by decide) (by decide) hP hD hS (lv_sub hl [0, 1, 2, 3, 4] rfl)
        · skip
          have fc193 : ¬ (v26.toInt = 0) := fun h9 => c193 (Int32.toInt_inj.mp h9)
          refine lv_aload_n hx hb dX12_tryShelf_59 rfl (lv_at hl 0 rfl) ?_
          refine va_get (D := (dC, dI)) (ci := 12) (v := .ref h1) (C := RX12) (T := TX12) (N := 48) hx hb hts (fun _ h => List.mem_cons_of_mem _ (List.mem_append_right _ h)) hown hK hP 0 rfl rfl 20 (by decide) (hts (.fieldLink RX12 46 "LeftArgumentsModel" "rule" "[I") (List.mem_cons_of_mem _ (List.mem_append_left _ (List.mem_of_getElem? (i := 37) rfl)))) (fun _ h9 => h9) rfl dX12_tryShelf_60 ?_
          refine lv_iconst (v := 1) hx hb dX12_tryShelf_63 (by decide) ?_
          refine va_iald hx hb hK hP 1 0 rfl rfl (pv_c (x := 1) (n := 4) (by decide)) dX12_tryShelf_64 ?_
          refine lv_topi (fun t194 et194 => ?_)
          have gat194 : 0 ≤ t194.toInt ∧ t194.toInt ≤ 5 := by rw [et194]; exact ia_f20.1
          refine lv_goto (tgt := 70) hx hb dX12_tryShelf_65 (by decide) ?_
          exact hJ105 t194 H locs ls (by first | omega | decide) (by first | omega | decide) hP hD hS (lv_sub hl [0, 1, 2, 3, 4] rfl)
      · skip
        have fc103 : ra102.toInt = 0 := congrArg Int32.toInt c103
        have q0wra102 := wra102 (by omega)
        refine lv_aload_n hx hb dX12_tryShelf_42 rfl (lv_at hl 0 rfl) ?_
        refine lv_iload_n hx hb dX12_tryShelf_43 rfl (lv_at hl 1 rfl) ?_
        refine lv_iconst (v := 1) hx hb dX12_tryShelf_44 (by decide) ?_
        refine lv_iadd hx hb dX12_tryShelf_45 ?_
        refine lv_topi (fun tv195 etv195 => ?_)
        obtain rfl : tv195 = (3 : Int32) := etv195.trans (by first | rfl | decide)
        refine lv_iload_n hx hb dX12_tryShelf_46 rfl (lv_at hl 2 rfl) ?_
        refine lv_iload_n hx hb dX12_tryShelf_47 rfl (lv_at hl 3 rfl) ?_
        refine lv_iload hx hb dX12_tryShelf_48 (lv_at hl 4 rfl) ?_
        have hPc := hP.sub (ws' := (wd_90cd99f9 h0 v0 r0 v1 v2 v3 v4 r1 r2 r3 r4 r5 r6 r7 v5 v6 r8 r9 r10 r11 v7 h1 r12 v8 v9 h2 r13 v10 v11 r14 v12 v13 r15 v14 w15 r16 v16 v17 h3 h4 r17 r18 r19 r20 v18 r21 r22 r23 v19 h1 g0 f20 h2 g1 f21 h3 g2 f22 h4 g3 f23)) [0, 1, 2, 3, 4] rfl
        have hDc := hD.sub (ws' := (wd_90cd99f9 h0 v0 r0 v1 v2 v3 v4 r1 r2 r3 r4 r5 r6 r7 v5 v6 r8 r9 r10 r11 v7 h1 r12 v8 v9 h2 r13 v10 v11 r14 v12 v13 r15 v14 w15 r16 v16 v17 h3 h4 r17 r18 r19 r20 v18 r21 r22 r23 v19 h1 g0 f20 h2 g1 f21 h3 g2 f22 h4 g3 f23)) [0, 1, 2, 3, 4] (by decide) rfl
        have hKc := hK.sub (tys' := [(g0, .int), (g1, .int), (g2, .int), (g3, .int)]) [0, 1, 2, 3] rfl
        have hFc := va_free (wc := (wd_90cd99f9 h0 v0 r0 v1 v2 v3 v4 r1 r2 r3 r4 r5 r6 r7 v5 v6 r8 r9 r10 r11 v7 h1 r12 v8 v9 h2 r13 v10 v11 r14 v12 v13 r15 v14 w15 r16 v16 v17 h3 h4 r17 r18 r19 r20 v18 r21 r22 r23 v19 h1 g0 f20 h2 g1 f21 h3 g2 f22 h4 g3 f23)) hD hS hA [0, 1, 2, 3, 4] rfl
        refine va_callv (va_runV (As := [.int 3, .int v24, .int v25, .int v26]) (rest := []) ⟨hx, hb, hml, hown, hts⟩ (k_X12_tryShelf_5 l dC dI h0 h1 h2 h3 h4 v0 r0 v1 v2 v3 v4 r1 r2 r3 r4 r5 r6 r7 v5 v6 r8 r9 r10 r11 v7 r12 v8 v9 r13 v10 v11 r14 v12 v13 r15 v14 w15 r16 v16 v17 r17 r18 r19 r20 v18 r21 r22 r23 v19 g0 f20 g1 f21 g2 f22 g3 f23 v24 v25 v26 ⟨i_v1a, i_v1b⟩ ⟨i_v5a, i_v5b⟩ ⟨i_v6a, i_v6b⟩ ⟨i_v7a, i_v7b⟩ ⟨i_v8a, i_v8b⟩ ⟨i_v9a, i_v9b⟩ ⟨i_v10a, i_v10b⟩ ⟨i_v14a, i_v14b⟩ ⟨i_v18a, i_v18b⟩ ⟨i_v19a, i_v19b⟩ ⟨i_v26a, i_v26b⟩ ia_f20 ia_f21 H.size) (cwV 4 hts g_X12_tryShelf_6_4 rfl rfl rfl (by decide +kernel) ⟨Nat.le_of_ble_eq_true rfl, Nat.le_of_ble_eq_true rfl⟩) (pv_PV12 hPc hKc hDc (q0 := 0) rfl) rfl rfl hl.1 rfl (lv_room (Nat.le_of_ble_eq_true rfl)) dX12_tryShelf_50 ⟨Nat.le_of_ble_eq_true rfl, Nat.le_of_ble_eq_true rfl⟩) hS (fun q _ h => hFc q h) hFc (fun u t H1 locs ht hvm hwra196 hB hz1 hk1 hS => ?_)
        obtain ⟨x197, x198, fn199, fn200, hP1, hK1, hD1⟩ := hB
        rw [ht] at hP1
        obtain ⟨hP2, hD2⟩ := va_join (wr := []) (w1 := (wd_90cd99f9 h0 v0 r0 v1 v2 v3 v4 r1 r2 r3 r4 r5 r6 r7 v5 v6 r8 r9 r10 r11 v7 h1 r12 v8 v9 h2 r13 v10 v11 r14 v12 v13 r15 v14 w15 r16 x197 x198 h3 h4 r17 r18 r19 r20 v18 r21 r22 r23 v19 h1 g0 f20 h2 g1 f21 h3 g2 fn199 h4 g3 fn200)) hP hD [0, 1, 2, 3, 4] [] rfl rfl (by decide) (by decide) hk1 hFc hP1 hD1
        clear hP hD hPc hDc hKc hFc hP1 hK1 hD1 hk1 hz1
        generalize H1 = H at hP2 hS ⊢
        have hP : va_P (dC, dI) vwCl (wd_90cd99f9 h0 v0 r0 v1 v2 v3 v4 r1 r2 r3 r4 r5 r6 r7 v5 v6 r8 r9 r10 r11 v7 h1 r12 v8 v9 h2 r13 v10 v11 r14 v12 v13 r15 v14 w15 r16 x197 x198 h3 h4 r17 r18 r19 r20 v18 r21 r22 r23 v19 h1 g0 f20 h2 g1 f21 h3 g2 fn199 h4 g3 fn200) H := hP2
        have hD : va_D A (wd_90cd99f9 h0 v0 r0 v1 v2 v3 v4 r1 r2 r3 r4 r5 r6 r7 v5 v6 r8 r9 r10 r11 v7 h1 r12 v8 v9 h2 r13 v10 v11 r14 v12 v13 r15 v14 w15 r16 x197 x198 h3 h4 r17 r18 r19 r20 v18 r21 r22 r23 v19 h1 g0 f20 h2 g1 f21 h3 g2 fn199 h4 g3 fn200) := hD2
        clear hP2 hD2
        subst hQ
        have hP9 := hP.sub (ws' := (wd_90cd99f9 h0 v0 r0 v1 v2 v3 v4 r1 r2 r3 r4 r5 r6 r7 v5 v6 r8 r9 r10 r11 v7 h1 r12 v8 v9 h2 r13 v10 v11 r14 v12 v13 r15 v14 w15 r16 x197 x198 h3 h4 r17 r18 r19 r20 v18 r21 r22 r23 v19 h1 g0 f20 h2 g1 f21 h3 g2 fn199 h4 g3 fn200)) [0, 1, 2, 3, 4] rfl
        have hD9 := hD.sub (ws' := (wd_90cd99f9 h0 v0 r0 v1 v2 v3 v4 r1 r2 r3 r4 r5 r6 r7 v5 v6 r8 r9 r10 r11 v7 h1 r12 v8 v9 h2 r13 v10 v11 r14 v12 v13 r15 v14 w15 r16 x197 x198 h3 h4 r17 r18 r19 r20 v18 r21 r22 r23 v19 h1 g0 f20 h2 g1 f21 h3 g2 fn199 h4 g3 fn200)) [0, 1, 2, 3, 4] (by decide) rfl
        have hK9 := hK.sub (tys' := []) [] rfl
        exact W.vret hx hb hr (fun t ht hW => ⟨⟨(), rfl, trivial, ⟨x197, x198, fn199, fn200, by rw [ht]; exact hP9, va_K.moved hW.alike hK9, hD9⟩⟩, hS.F ht⟩) hS.2.2 dX12_tryShelf_53
    · skip
      have fc101 : ¬ (v25.toInt < v17.toInt) := fun h9 => c101 (Int32.lt_iff_toInt_lt.mpr h9)
      have r1c101 := Int32.toInt_lt v25
      have r2c101 := Int32.toInt_lt v17
      have r3c101 := Int32.le_toInt v25
      have r4c101 := Int32.le_toInt v17
      subst hQ
      have hP9 := hP.sub (ws' := (wd_90cd99f9 h0 v0 r0 v1 v2 v3 v4 r1 r2 r3 r4 r5 r6 r7 v5 v6 r8 r9 r10 r11 v7 h1 r12 v8 v9 h2 r13 v10 v11 r14 v12 v13 r15 v14 w15 r16 v16 v17 h3 h4 r17 r18 r19 r20 v18 r21 r22 r23 v19 h1 g0 f20 h2 g1 f21 h3 g2 f22 h4 g3 f23)) [0, 1, 2, 3, 4] rfl
      have hD9 := hD.sub (ws' := (wd_90cd99f9 h0 v0 r0 v1 v2 v3 v4 r1 r2 r3 r4 r5 r6 r7 v5 v6 r8 r9 r10 r11 v7 h1 r12 v8 v9 h2 r13 v10 v11 r14 v12 v13 r15 v14 w15 r16 v16 v17 h3 h4 r17 r18 r19 r20 v18 r21 r22 r23 v19 h1 g0 f20 h2 g1 f21 h3 g2 f22 h4 g3 f23)) [0, 1, 2, 3, 4] (by decide) rfl
      have hK9 := hK.sub (tys' := []) [] rfl
      exact W.vret hx hb hr (fun t ht hW => ⟨⟨(), rfl, trivial, ⟨v16, v17, f22, f23, by rw [ht]; exact hP9, va_K.moved hW.alike hK9, hD9⟩⟩, hS.F ht⟩) hS.2.2 dX12_tryShelf_16
