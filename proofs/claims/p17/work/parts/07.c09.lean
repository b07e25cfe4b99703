def q_X3_readSum_4 : List Cond := .code yX3_readSum cX3_readSum 4 (some .boolean) :: (([.code yX3_readTerm cX3_readTerm 4 (some .boolean), .code yX3_readAtom cX3_readAtom 4 (some .boolean), .fieldLink RX3 19 "LeftArguments$LawReader" "tape" "LLeftArguments$Tape;", .code yX10_next cX10_next 1 (some .int), .fieldLink RX10 19 "LeftArguments$Tape" "at" "I", .fieldLink RX10 15 "LeftArguments$Tape" "used" "I", .fieldLink RX10 9 "LeftArguments$Tape" "bytes" "[I", .initialized RX10, .instanceMethod yX10_next, .selects RX10 yX10_next yX10_next, .methodLink RX3 48 yX10_next, .code yX10_isDigit cX10_isDigit 1 (some .boolean), .static yX10_isDigit, .methodLink RX3 92 yX10_isDigit, .code yX10_step cX10_step 1 none, .instanceMethod yX10_step, .selects RX10 yX10_step yX10_step, .methodLink RX3 77 yX10_step, .code yX3_write cX3_write 3 none, .fieldLink RX3 15 "LeftArguments$LawReader" "used" "I", .fieldLink RX3 11 "LeftArguments$LawReader" "code" "[I", .initialized RX3, .instanceMethod yX3_write, .selects RX3 yX3_write yX3_write, .methodLink RX3 66 yX3_write, .code yX10_wrongHere cX10_wrongHere 1 (some .boolean), .fieldLink RX10 22 "LeftArguments$Tape" "wrongAt" "I", .instanceMethod yX10_wrongHere, .selects RX10 yX10_wrongHere yX10_wrongHere, .methodLink RX3 83 yX10_wrongHere, .code yJ0_indexOf_0f7a4 cJ0_indexOf_0f7a4 2 (some .int), .code yJ0_indexOf_7cf53 cJ0_indexOf_7cf53 3 (some .int), .code yJ0_isLatin1_aae02 cJ0_isLatin1_aae02 1 (some .boolean), .fieldLink RJ0 38 "java/lang/String" "COMPACT_STRINGS" "Z", .fieldLink RJ0 15 "java/lang/String" "coder" "B", .initialized RJ0, .instanceMethod yJ0_isLatin1_aae02, .selects RJ0 yJ0_isLatin1_aae02 yJ0_isLatin1_aae02, .methodLink RJ0 492 yJ0_isLatin1_aae02, .fieldLink RJ0 9 "java/lang/String" "value" "[B", .code yJ0_length_8abf5 cJ0_length_8abf5 1 (some .int), .code yJ0_coder_7d493 cJ0_coder_7d493 1 (some .byte), .instanceMethod yJ0_coder_7d493, .selects RJ0 yJ0_coder_7d493 yJ0_coder_7d493, .methodLink RJ0 335 yJ0_coder_7d493, .instanceMethod yJ0_length_8abf5, .selects RJ0 yJ0_length_8abf5 yJ0_length_8abf5, .methodLink RJ0 505 yJ0_length_8abf5, .code yJ1_indexOf_4cfef cJ1_indexOf_4cfef 4 (some .int), .code yJ1_canEncode_9a6ad cJ1_canEncode_9a6ad 1 (some .boolean), .initialized RJ1, .static yJ1_canEncode_9a6ad, .methodLink RJ1 88 yJ1_canEncode_9a6ad, .methodLink RJ1 92 Lib.Math.max.name, .static Lib.Math.max.name, .initialized "java/lang/Math", .code Lib.Math.max.name Lib.Math.max.code 2 (some .int), .methodLink RJ1 38 Lib.Math.min.name, .static Lib.Math.min.name, .code Lib.Math.min.name Lib.Math.min.code 2 (some .int), .code yJ1_indexOfChar_4cfef cJ1_indexOfChar_4cfef 6 (some .int), .static yJ1_indexOfChar_4cfef, .methodLink RJ1 95 yJ1_indexOfChar_4cfef, .static yJ1_indexOf_4cfef, .methodLink RJ0 637 yJ1_indexOf_4cfef, .instanceMethod yJ0_indexOf_7cf53, .selects RJ0 yJ0_indexOf_7cf53 yJ0_indexOf_7cf53, .methodLink RJ0 633 yJ0_indexOf_7cf53, .instanceMethod yJ0_indexOf_0f7a4, .selects RJ0 yJ0_indexOf_0f7a4 yJ0_indexOf_0f7a4, .methodLink RX3 103 yJ0_indexOf_0f7a4, .code yX10_takeNumber cX10_takeNumber 3 (some .boolean), .methodLink RX10 37 yX10_next, .methodLink RX10 45 yX10_isDigit, .fieldLink RX10 25 "LeftArguments$Tape" "number" "I", .code yX10_sign cX10_sign 1 (some .int), .instanceMethod yX10_sign, .selects RX10 yX10_sign yX10_sign, .methodLink RX10 49 yX10_sign, .methodLink RX10 41 yX10_wrongHere, .instanceMethod yX10_takeNumber, .selects RX10 yX10_takeNumber yX10_takeNumber, .methodLink RX3 95 yX10_takeNumber, .code yX10_number cX10_number 1 (some .int), .instanceMethod yX10_number, .selects RX10 yX10_number yX10_number, .methodLink RX3 98 yX10_number, .code yX3_readSum cX3_readSum 4 (some .boolean), .instanceMethod yX3_readAtom, .selects RX3 yX3_readAtom yX3_readAtom, .methodLink RX3 89 yX3_readAtom, .instanceMethod yX3_readTerm, .selects RX3 yX3_readTerm yX3_readTerm, .methodLink RX3 86 yX3_readTerm, .instanceMethod yX3_readSum, .selects RX3 yX3_readSum yX3_readSum, .methodLink RX3 59 yX3_readSum, .code yX10_take cX10_take 2 (some .boolean), .instanceMethod yX10_take, .selects RX10 yX10_take yX10_take, .methodLink RX3 51 yX10_take] : List Cond) ++ wsX30 ++ wsX100)
set_option maxRecDepth 20000 in
theorem g_X3_readSum_4_0 : GoodIn q_X3_readSum_4 (wsV RX3 86 RX3 yX3_readTerm q_X3_readTerm_4) := goodIn_app (goodIn_r _ [94, 92, 93, 22] rfl (by decide +kernel)) (goodIn_ca (goodIn_ca (goodIn_r (.code yX3_readTerm cX3_readTerm 4 (some .boolean) :: [.code yX3_readAtom cX3_readAtom 4 (some .boolean), .fieldLink RX3 19 "LeftArguments$LawReader" "tape" "LLeftArguments$Tape;", .code yX10_next cX10_next 1 (some .int), .fieldLink RX10 19 "LeftArguments$Tape" "at" "I", .fieldLink RX10 15 "LeftArguments$Tape" "used" "I", .fieldLink RX10 9 "LeftArguments$Tape" "bytes" "[I", .initialized RX10, .instanceMethod yX10_next, .selects RX10 yX10_next yX10_next, .methodLink RX3 48 yX10_next, .code yX10_isDigit cX10_isDigit 1 (some .boolean), .static yX10_isDigit, .methodLink RX3 92 yX10_isDigit, .code yX10_step cX10_step 1 none, .instanceMethod yX10_step, .selects RX10 yX10_step yX10_step, .methodLink RX3 77 yX10_step, .code yX3_write cX3_write 3 none, .fieldLink RX3 15 "LeftArguments$LawReader" "used" "I", .fieldLink RX3 11 "LeftArguments$LawReader" "code" "[I", .initialized RX3, .instanceMethod yX3_write, .selects RX3 yX3_write yX3_write, .methodLink RX3 66 yX3_write, .code yX10_wrongHere cX10_wrongHere 1 (some .boolean), .fieldLink RX10 22 "LeftArguments$Tape" "wrongAt" "I", .instanceMethod yX10_wrongHere, .selects RX10 yX10_wrongHere yX10_wrongHere, .methodLink RX3 83 yX10_wrongHere, .code yJ0_indexOf_0f7a4 cJ0_indexOf_0f7a4 2 (some .int), .code yJ0_indexOf_7cf53 cJ0_indexOf_7cf53 3 (some .int), .code yJ0_isLatin1_aae02 cJ0_isLatin1_aae02 1 (some .boolean), .fieldLink RJ0 38 "java/lang/String" "COMPACT_STRINGS" "Z", .fieldLink RJ0 15 "java/lang/String" "coder" "B", .initialized RJ0, .instanceMethod yJ0_isLatin1_aae02, .selects RJ0 yJ0_isLatin1_aae02 yJ0_isLatin1_aae02, .methodLink RJ0 492 yJ0_isLatin1_aae02, .fieldLink RJ0 9 "java/lang/String" "value" "[B", .code yJ0_length_8abf5 cJ0_length_8abf5 1 (some .int), .code yJ0_coder_7d493 cJ0_coder_7d493 1 (some .byte), .instanceMethod yJ0_coder_7d493, .selects RJ0 yJ0_coder_7d493 yJ0_coder_7d493, .methodLink RJ0 335 yJ0_coder_7d493, .instanceMethod yJ0_length_8abf5, .selects RJ0 yJ0_length_8abf5 yJ0_length_8abf5, .methodLink RJ0 505 yJ0_length_8abf5, .code yJ1_indexOf_4cfef cJ1_indexOf_4cfef 4 (some .int), .code yJ1_canEncode_9a6ad cJ1_canEncode_9a6ad 1 (some .boolean), .initialized RJ1, .static yJ1_canEncode_9a6ad, .methodLink RJ1 88 yJ1_canEncode_9a6ad, .methodLink RJ1 92 Lib.Math.max.name, .static Lib.Math.max.name, .initialized "java/lang/Math", .code Lib.Math.max.name Lib.Math.max.code 2 (some .int), .methodLink RJ1 38 Lib.Math.min.name, .static Lib.Math.min.name, .code Lib.Math.min.name Lib.Math.min.code 2 (some .int), .code yJ1_indexOfChar_4cfef cJ1_indexOfChar_4cfef 6 (some .int), .static yJ1_indexOfChar_4cfef, .methodLink RJ1 95 yJ1_indexOfChar_4cfef, .static yJ1_indexOf_4cfef, .methodLink RJ0 637 yJ1_indexOf_4cfef, .instanceMethod yJ0_indexOf_7cf53, .selects RJ0 yJ0_indexOf_7cf53 yJ0_indexOf_7cf53, .methodLink RJ0 633 yJ0_indexOf_7cf53, .instanceMethod yJ0_indexOf_0f7a4, .selects RJ0 yJ0_indexOf_0f7a4 yJ0_indexOf_0f7a4, .methodLink RX3 103 yJ0_indexOf_0f7a4, .code yX10_takeNumber cX10_takeNumber 3 (some .boolean), .methodLink RX10 37 yX10_next, .methodLink RX10 45 yX10_isDigit, .fieldLink RX10 25 "LeftArguments$Tape" "number" "I", .code yX10_sign cX10_sign 1 (some .int), .instanceMethod yX10_sign, .selects RX10 yX10_sign yX10_sign, .methodLink RX10 49 yX10_sign, .methodLink RX10 41 yX10_wrongHere, .instanceMethod yX10_takeNumber, .selects RX10 yX10_takeNumber yX10_takeNumber, .methodLink RX3 95 yX10_takeNumber, .code yX10_number cX10_number 1 (some .int), .instanceMethod yX10_number, .selects RX10 yX10_number yX10_number, .methodLink RX3 98 yX10_number, .code yX3_readSum cX3_readSum 4 (some .boolean), .code yX3_readTerm cX3_readTerm 4 (some .boolean), .instanceMethod yX3_readAtom, .selects RX3 yX3_readAtom yX3_readAtom, .methodLink RX3 89 yX3_readAtom, .instanceMethod yX3_readTerm, .selects RX3 yX3_readTerm yX3_readTerm, .methodLink RX3 86 yX3_readTerm, .instanceMethod yX3_readSum, .selects RX3 yX3_readSum yX3_readSum, .methodLink RX3 59 yX3_readSum, .code yX10_take cX10_take 2 (some .boolean), .instanceMethod yX10_take, .selects RX10 yX10_take yX10_take, .methodLink RX3 51 yX10_take]) [1, 2, 3, 4, 5, 6, 7, 8, 9, 10, 11, 12, 13, 14, 15, 16, 17, 18, 19, 20, 21, 22, 23, 24, 25, 26, 27, 28, 29, 30, 31, 32, 33, 34, 35, 36, 37, 38, 39, 40, 41, 42, 43, 44, 45, 46, 47, 48, 49, 50, 51, 52, 53, 54, 55, 56, 57, 58, 59, 60, 61, 62, 63, 64, 65, 66, 67, 68, 69, 70, 71, 72, 73, 74, 75, 76, 77, 78, 79, 80, 81, 82, 83, 84, 85, 86, 87, 88, 1, 89, 90, 91, 92, 93, 94, 95, 96, 97, 98, 99, 100, 101] rfl (by decide +kernel)) (goodIn_sub (fun _ h => List.mem_cons_of_mem _ (List.mem_append_left _ (List.mem_append_right _ h))) gwX3)) (goodIn_sub (fun _ h => List.mem_cons_of_mem _ (List.mem_append_right _ h)) gwX10))
set_option maxRecDepth 20000 in
theorem g_X3_readSum_4_1 : GoodIn q_X3_readSum_4 (wsV RX3 48 RX10 yX10_next q_X10_next) := goodIn_app (goodIn_r _ [11, 9, 10, 8] rfl (by decide +kernel)) (goodIn_ca (goodIn_r (.code yX10_next cX10_next 1 (some .int) :: [.fieldLink RX10 19 "LeftArguments$Tape" "at" "I", .fieldLink RX10 15 "LeftArguments$Tape" "used" "I", .fieldLink RX10 9 "LeftArguments$Tape" "bytes" "[I"]) [4, 5, 6, 7] rfl (by decide +kernel)) (goodIn_sub (fun _ h => List.mem_cons_of_mem _ (List.mem_append_right _ h)) gwX10))
set_option maxRecDepth 20000 in
theorem g_X3_readSum_4_2 : GoodIn q_X3_readSum_4 (wsV RX3 77 RX10 yX10_step q_X10_step) := goodIn_app (goodIn_r _ [18, 16, 17, 8] rfl (by decide +kernel)) (goodIn_ca (goodIn_r (.code yX10_step cX10_step 1 none :: [.fieldLink RX10 19 "LeftArguments$Tape" "at" "I"]) [15, 5] rfl (by decide +kernel)) (goodIn_sub (fun _ h => List.mem_cons_of_mem _ (List.mem_append_right _ h)) gwX10))
set_option maxRecDepth 20000 in
theorem g_X3_readSum_4_4 : GoodIn q_X3_readSum_4 (wsV RX3 66 RX3 yX3_write q_X3_write) := goodIn_app (goodIn_r _ [25, 23, 24, 22] rfl (by decide +kernel)) (goodIn_ca (goodIn_r (.code yX3_write cX3_write 3 none :: [.fieldLink RX3 15 "LeftArguments$LawReader" "used" "I", .fieldLink RX3 11 "LeftArguments$LawReader" "code" "[I"]) [19, 20, 21] rfl (by decide +kernel)) (goodIn_sub (fun _ h => List.mem_cons_of_mem _ (List.mem_append_left _ (List.mem_append_right _ h))) gwX3))
set_option maxHeartbeats 4000000 in
set_option maxRecDepth 100000 in
theorem k_X3_readSum_4 (l : Launch) (dC : Nat → ClassId) (dI : Nat → Nat → Nat) (adK : Nat → Nat) (adV : Nat → Nat) (h0 : Nat) (h1 : Nat) (h2 : Nat) (h3 : Nat) (v0 : Int32) (v1 : Int32) (v2 : Int32) (v3 : Int32) (v4 : Int32) (g0 : ClassId) (f5 : Nat → Int32) (g1 : ClassId) (f6 : Nat → Int32) (i_v0 : 0 ≤ v0.toInt ∧ v0.toInt ≤ 256) (i_v1 : 0 ≤ v1.toInt ∧ v1.toInt ≤ 240) (sz : Nat) : Met l yX3_readSum q_X3_readSum_4 ({ frames := 18, cells := 0, slots := 0, locals := 413 }) (va_Pc [.ref h0, .int 2] (fun U => U.heap.size = sz ∧ va_P (dC, dI) vwCl (wd_1ad0248d h0 h1 h3 v0 h1 h2 v1 v2 v3 v4 h2 g0 f5 h3 g1 f6) U.heap ∧ va_K (dC, dI) vwCl [(g0, .int), (g1, .int)] U ∧ va_D (fun _ => True) (wd_1ad0248d h0 h1 h3 v0 h1 h2 v1 v2 v3 v4 h2 g0 f5 h3 g1 f6) ∧ vk_R RX3 101 "zaondt" (adK 2) U ∧ va_Z "java/lang/String" "COMPACT_STRINGS" "Z" (.int 1) (va_A (wd_1ad0248d h0 h1 h3 v0 h1 h2 v1 v2 v3 v4 h2 g0 f5 h3 g1 f6) sz) U U.heap ∧ vk_S 3 pv_len3 pv_byt3 adK adV (va_A (wd_1ad0248d h0 h1 h3 v0 h1 h2 v1 v2 v3 v4 h2 g0 f5 h3 g1 f6) sz) U U.heap)) (va_Qi (fun (r : Int32) (_ : Unit) => 0 ≤ r.toInt ∧ r.toInt ≤ 1) (fun (_ : Unit) (t : State) => ∃ (o_h0_2 : Int32) (o_h1_2 : Int32) (o_h1_3 : Int32) (o_h1_4 : Int32) (o_h3 : Nat → Int32), 0 ≤ o_h0_2.toInt ∧ o_h0_2.toInt ≤ 256 ∧ va_P (dC, dI) vwCl (wd_1ad0248d h0 h1 h3 o_h0_2 h1 h2 v1 o_h1_2 o_h1_3 o_h1_4 h2 g0 f5 h3 g1 o_h3) t.heap ∧ va_K (dC, dI) vwCl [] t ∧ va_D (va_A (wd_1ad0248d h0 h1 h3 v0 h1 h2 v1 v2 v3 v4 h2 g0 f5 h3 g1 f6) sz) (wd_1ad0248d h0 h1 h3 o_h0_2 h1 h2 v1 o_h1_2 o_h1_3 o_h1_4 h2 g0 f5 h3 g1 o_h3)) (va_A (wd_1ad0248d h0 h1 h3 v0 h1 h2 v1 v2 v3 v4 h2 g0 f5 h3 g1 f6) sz)) 0 0 (va_A (wd_1ad0248d h0 h1 h3 v0 h1 h2 v1 v2 v3 v4 h2 g0 f5 h3 g1 f6) sz) := by
  refine Met.ofW (cc := cX3_readSum) (maxL := 4) (ret := (some .boolean)) (by decide) rfl ?_
  intro p e s m args below meth c s₁ B hml hv
  obtain ⟨i_v0a, i_v0b⟩ := i_v0
  obtain ⟨i_v1a, i_v1b⟩ := i_v1
  obtain ⟨rfl, hsz, hP, hK, hD0, h_vr_2, h_st_CS, h_st_S⟩ := hv
  have hx := B.exec
  have hb := B.bytes
  have hr := B.returns
  have hts := atoms_spec (ws := q_X3_readSum_4) B.pre
  have hown : s.vm.findClass RX3 = some m.cls := findClass_of_methodNamed B.named
  have hlocks := B.notSynchronized
  subst hsz
  have hD := hD0.self (sz := s.heap.size)
  generalize hAe : va_A (wd_1ad0248d h0 h1 h3 v0 h1 h2 v1 v2 v3 v4 h2 g0 f5 h3 g1 f6) s.heap.size = A at hD h_st_CS h_st_S ⊢
  have hA : ∀ q : Nat, s.heap.size ≤ q → A q := fun q h => by rw [← hAe]; exact Or.inr h
  have hS : va_S A s.heap s.heap [] := va_S.rf
  generalize hQ : (MQ below _ _ s 0 0 A) = Q
  have hl := lv_entry ([.ref h0, .int 2]) (n := 4) (Nat.le_of_ble_eq_true rfl)
  rw [lg_entry_eq]
  generalize (lg_sl ([.ref h0, .int 2]) ++ List.replicate (4 - (lg_sl ([.ref h0, .int 2])).length) Slot.unset).toArray = ls at hl ⊢
  have hl : lv_has ls 4 [(0, .ref h0), (1, .int 2)] := hl
  obtain ⟨H, hH⟩ : ∃ H : Heap, H = s.heap := ⟨_, rfl⟩
  obtain ⟨locs, hlocs⟩ : ∃ y : List Loc, y = [] := ⟨_, rfl⟩
  have hS : va_S A s.heap H locs := by rw [hH, hlocs]; exact va_S.rf
  have hP : va_P (dC, dI) vwCl (wd_1ad0248d h0 h1 h3 v0 h1 h2 v1 v2 v3 v4 h2 g0 f5 h3 g1 f6) H := by rw [hH]; exact hP
  rw [← hH, ← hlocs]
  refine lv_aload_n hx hb dX3_readSum_0 rfl (lv_at hl 0 rfl) ?_
  refine lv_iload_n hx hb dX3_readSum_1 rfl (lv_at hl 1 rfl) ?_
  have hPc := hP.sub (ws' := (wd_1ad0248d h0 h1 h3 v0 h1 h2 v1 v2 v3 v4 h2 g0 f5 h3 g1 f6)) [0, 1, 2, 3] rfl
  have hDc := hD.sub (ws' := (wd_1ad0248d h0 h1 h3 v0 h1 h2 v1 v2 v3 v4 h2 g0 f5 h3 g1 f6)) [0, 1, 2, 3] (by decide) rfl
  have hKc := hK.sub (tys' := [(g0, .int), (g1, .int)]) [0, 1] rfl
  have hFc := va_free (wc := (wd_1ad0248d h0 h1 h3 v0 h1 h2 v1 v2 v3 v4 h2 g0 f5 h3 g1 f6)) hD hS hA [0, 1, 2, 3] rfl
  refine va_calli (va_runV (As := [.int 2]) (rest := []) ⟨hx, hb, hml, hown, hts⟩ (k_X3_readTerm_4 l dC dI adK adV h0 h1 h2 h3 v0 v1 v2 v3 v4 g0 f5 g1 f6 ⟨by first | omega | decide, by first | omega | decide⟩ ⟨by first | omega | decide, by first | omega | decide⟩ H.size) (cwV 1 hts g_X3_readSum_4_0 rfl rfl rfl (by decide +kernel) ⟨Nat.le_of_ble_eq_true rfl, Nat.le_of_ble_eq_true rfl⟩) ⟨fun a U g mk q => by obtain ⟨q0, q1, qP, qK, qD, n0, n1, n2⟩ := q; exact ⟨q0, q1, qP, va_K.moved (u := U) (U := U.calling g mk a) (Vm.Alike.refl U.vm) qK, qD, vk_R.same rfl n0, va_Z.moved (Vm.Alike.refl _) n1, vk_S.moved (Vm.Alike.refl _) n2⟩, va_recv hKc hPc (ci := 3) (q0 := 0) rfl rfl, fun U hU hW => ⟨rfl, by rw [hU], by rw [hU]; exact hPc, va_K.moved hW.alike hKc, hDc.weaken (fun _ _ _ _ => trivial), vk_R.warm hW h_vr_2, (by rw [hU]; exact (va_Z.moved hW.alike (va_Z.kept h_st_CS hS.2.1)).narrow hFc), (by rw [hU]; exact (vk_S.moved hW.alike (vk_S.kept h_st_S hS.2.1)).narrow hFc)⟩⟩ rfl rfl hl.1 rfl (lv_room (Nat.le_of_ble_eq_true rfl)) dX3_readSum_2 ⟨Nat.le_of_ble_eq_true rfl, Nat.le_of_ble_eq_true rfl⟩) hS (fun q _ h => hFc q h) hFc (fun ra1 u t H1 locs ht hvm hwra1 hB hz1 hk1 hS => ?_)
  obtain ⟨x2, x3, x4, x5, fn6, oa_x2, ob_x2, hP1, hK1, hD1⟩ := hB
  rw [ht] at hP1
  obtain ⟨hP, hD⟩ := va_join (wr := []) (w1 := (wd_1ad0248d h0 h1 h3 x2 h1 h2 v1 x3 x4 x5 h2 g0 f5 h3 g1 fn6)) hP hD [0, 1, 2, 3] [] rfl rfl (by decide) (by decide) hk1 hFc hP1 hD1
  generalize H1 = H at hP hS ⊢
  have hP : va_P (dC, dI) vwCl (wd_1ad0248d h0 h1 h3 x2 h1 h2 v1 x3 x4 x5 h2 g0 f5 h3 g1 fn6) H := hP
  have hD : va_D A (wd_1ad0248d h0 h1 h3 x2 h1 h2 v1 x3 x4 x5 h2 g0 f5 h3 g1 fn6) := hD
  obtain ⟨wa_ra1, wb_ra1⟩ := hwra1
  have wa_ra1 : 0 ≤ ra1.toInt := wa_ra1
  have wb_ra1 : ra1.toInt ≤ 1 := wb_ra1
  refine lv_if_ne (tgt := 10) hx hb dX3_readSum_5 (by decide) (fun c7 => ?_) (fun c7 => ?_)
  · skip
    have fc7 : ¬ (ra1.toInt = 0) := fun h9 => c7 (Int32.toInt_inj.mp h9)
    refine lv_iconst (v := 0) hx hb dX3_readSum_10 (by decide) ?_
    refine lv_istore_n (lv' := [(2, .int 0), (0, .ref h0), (1, .int 2)]) hx hb dX3_readSum_11 rfl hl (by decide) rfl (fun ls hl => ?_)
    have hL104 : ∀ (n9 : Nat), ∀ (x92 : Int32) (x93 : Int32) (x94 : Int32) (x95 : Int32) (x96 : Int32) (fn97 : Nat → Int32) (H : Heap) (locs : List Loc) (ls : Array Slot), 0 ≤ x92.toInt → x92.toInt ≤ 240 → 0 ≤ x93.toInt → x93.toInt ≤ 256 → (240 - x92.toInt).toNat < n9 → va_P (dC, dI) vwCl (wd_1ad0248d h0 h1 h3 x93 h1 h2 v1 x94 x95 x96 h2 g0 f5 h3 g1 fn97) H → va_D A (wd_1ad0248d h0 h1 h3 x93 h1 h2 v1 x94 x95 x96 h2 g0 f5 h3 g1 fn97) → va_S A s.heap H locs → lv_has ls 4 [(2, .int x92), (0, .ref h0), (1, .int 2)] → W p l e ({ frames := 18, cells := 0, slots := 0, locals := 413 }) s m ([.ref h0, .int 2] : List Value).toArray below meth c H locs 0 0 Q (F0 m 12 ls []) := by
      intro n9
      induction n9 with
      | zero => intro x92 x93 x94 x95 x96 fn97 H locs ls qa_x92 qb_x92 qa_x93 qb_x93 hm9 hP hD hS hl; exact absurd hm9 (Nat.not_lt_zero _)
      | succ n9 ih_hL104 =>
        intro x92 x93 x94 x95 x96 fn97 H locs ls qa_x92 qb_x92 qa_x93 qb_x93 hm9 hP hD hS hl
        refine lv_iload_n hx hb dX3_readSum_12 rfl (lv_at hl 0 rfl) ?_
        refine lv_sipush (v := 240) hx hb dX3_readSum_13 (by decide) ?_
        refine lv_icmp_ge (tgt := 80) hx hb dX3_readSum_16 (by decide) (fun c105 => ?_) (fun c105 => ?_)
        · skip
          have fc105 : 240 ≤ x92.toInt := Int32.le_iff_toInt_le.mp c105
          refine lv_iconst (v := 1) hx hb dX3_readSum_80 (by decide) ?_
          subst hQ
          have hP9 := hP.sub (ws' := (wd_1ad0248d h0 h1 h3 x93 h1 h2 v1 x94 x95 x96 h2 g0 f5 h3 g1 fn97)) [0, 1, 2, 3] rfl
          have hD9 := hD.sub (ws' := (wd_1ad0248d h0 h1 h3 x93 h1 h2 v1 x94 x95 x96 h2 g0 f5 h3 g1 fn97)) [0, 1, 2, 3] (by decide) rfl
          have hK9 := hK.sub (tys' := []) [] rfl
          exact W.zret (v := 1) hx hb hr rfl (fun t ht hW => ⟨⟨1, (), rfl, ⟨by first | omega | decide, by first | omega | decide⟩, x93, x94, x95, x96, fn97, by first | omega | decide, by first | omega | decide, by rw [ht]; exact hP9, va_K.moved hW.alike hK9, hD9⟩, hS.F ht⟩) hS.2.2 dX3_readSum_81
        · skip
          have fc105 : ¬ (240 ≤ x92.toInt) := fun h9 => c105 (Int32.le_iff_toInt_le.mpr h9)
          refine lv_aload_n hx hb dX3_readSum_19 rfl (lv_at hl 1 rfl) ?_
          refine va_get (D := (dC, dI)) (ci := 3) (v := .ref h1) (C := RX3) (T := TX3) (N := 3) hx hb hts (fun _ h => List.mem_cons_of_mem _ (List.mem_append_left _ (List.mem_append_right _ h))) hown hK hP 0 rfl rfl 0 (by decide) (hts (.fieldLink RX3 19 "LeftArguments$LawReader" "tape" "LLeftArguments$Tape;") (List.mem_cons_of_mem _ (List.mem_append_left _ (List.mem_append_left _ (List.mem_of_getElem? (i := 2) rfl))))) (fun _ h9 => h9) rfl dX3_readSum_20 ?_
          have hPc := hP.sub (ws' := (wd_82cdd16b h1 h2 v1 x94 x95 x96 h2 g0 f5)) [1, 2] rfl
          have hDc := hD.sub (ws' := (wd_82cdd16b h1 h2 v1 x94 x95 x96 h2 g0 f5)) [1, 2] (by decide) rfl
          have hKc := hK.sub (tys' := [(g0, .int)]) [0] rfl
          have hFc := va_free (wc := (wd_82cdd16b h1 h2 v1 x94 x95 x96 h2 g0 f5)) hD hS hA [1, 2] rfl
          refine va_calli (va_runV (As := []) (rest := []) ⟨hx, hb, hml, hown, hts⟩ (k_X10_next l dC dI h1 h2 v1 x94 x95 x96 g0 f5 ⟨by first | omega | decide, by first | omega | decide⟩ H.size) (cwV 0 hts g_X3_readSum_4_1 rfl rfl rfl (by decide +kernel) ⟨Nat.le_of_ble_eq_true rfl, Nat.le_of_ble_eq_true rfl⟩) ⟨fun a U g mk q => by obtain ⟨q0, q1, qP, qK, qD⟩ := q; exact ⟨q0, q1, qP, va_K.moved (u := U) (U := U.calling g mk a) (Vm.Alike.refl U.vm) qK, qD⟩, va_recv hKc hPc (ci := 10) (q0 := 0) rfl rfl, fun U hU hW => ⟨rfl, by rw [hU], by rw [hU]; exact hPc, va_K.moved hW.alike hKc, hDc.weaken (fun _ _ _ _ => trivial)⟩⟩ rfl rfl hl.1 rfl (lv_room (Nat.le_of_ble_eq_true rfl)) dX3_readSum_23 ⟨Nat.le_of_ble_eq_true rfl, Nat.le_of_ble_eq_true rfl⟩) hS (fun q _ h => hFc q h) hFc (fun ra106 u t H1 locs ht hvm hwra106 hB hz1 hk1 hS => ?_)
          obtain ⟨x107, hP1, hK1, hD1⟩ := hB
          rw [ht] at hP1
          obtain ⟨hP, hD⟩ := va_join (wr := (wd_b958b9da h0 h1 h3 x93 h3 g1 fn97)) (w1 := (wd_82cdd16b h1 h2 v1 x107 x95 x96 h2 g0 f5)) hP hD [1, 2] [0, 3] rfl rfl (by decide) (by decide) hk1 hFc hP1 hD1
          generalize H1 = H at hP hS ⊢
          have hP := hP.sub (ws' := (wd_1ad0248d h0 h1 h3 x93 h1 h2 v1 x107 x95 x96 h2 g0 f5 h3 g1 fn97)) [0, 2, 3, 1] rfl
          have hD := hD.sub (ws' := (wd_1ad0248d h0 h1 h3 x93 h1 h2 v1 x107 x95 x96 h2 g0 f5 h3 g1 fn97)) [0, 2, 3, 1] (by decide) rfl
          have hP : va_P (dC, dI) vwCl (wd_1ad0248d h0 h1 h3 x93 h1 h2 v1 x107 x95 x96 h2 g0 f5 h3 g1 fn97) H := hP
          have hD : va_D A (wd_1ad0248d h0 h1 h3 x93 h1 h2 v1 x107 x95 x96 h2 g0 f5 h3 g1 fn97) := hD
          refine lv_istore_n (lv' := [(3, .int ra106), (2, .int x92), (0, .ref h0), (1, .int 2)]) hx hb dX3_readSum_26 rfl hl (by decide) rfl (fun ls hl => ?_)
          refine lv_iload_n hx hb dX3_readSum_27 rfl (lv_at hl 0 rfl) ?_
          refine lv_bipush (v := 43) hx hb dX3_readSum_28 (by decide) ?_
          refine lv_icmp_eq (tgt := 41) hx hb dX3_readSum_30 (by decide) (fun c108 => ?_) (fun c108 => ?_)
          · skip
            have fc108 : ra106.toInt = 43 := congrArg Int32.toInt c108
            refine lv_aload_n hx hb dX3_readSum_41 rfl (lv_at hl 2 rfl) ?_
            refine va_get (D := (dC, dI)) (ci := 3) (v := .ref h1) (C := RX3) (T := TX3) (N := 3) hx hb hts (fun _ h => List.mem_cons_of_mem _ (List.mem_append_left _ (List.mem_append_right _ h))) hown hK hP 0 rfl rfl 0 (by decide) (hts (.fieldLink RX3 19 "LeftArguments$LawReader" "tape" "LLeftArguments$Tape;") (List.mem_cons_of_mem _ (List.mem_append_left _ (List.mem_append_left _ (List.mem_of_getElem? (i := 2) rfl))))) (fun _ h9 => h9) rfl dX3_readSum_42 ?_
            have hPc := hP.sub (ws' := (wd_09b0abee h1 h2 v1 x107 x95 x96)) [1] rfl
            have hDc := hD.sub (ws' := (wd_09b0abee h1 h2 v1 x107 x95 x96)) [1] (by decide) rfl
            have hKc := hK.sub (tys' := []) [] rfl
            have hFc := va_free (wc := (wd_09b0abee h1 h2 v1 x107 x95 x96)) hD hS hA [1] rfl
            refine va_callv (va_runV (As := []) (rest := []) ⟨hx, hb, hml, hown, hts⟩ (k_X10_step l dC dI h1 h2 v1 x107 x95 x96 ⟨by first | omega | decide, by first | omega | decide⟩ H.size) (cwV 0 hts g_X3_readSum_4_2 rfl rfl rfl (by decide +kernel) ⟨Nat.le_of_ble_eq_true rfl, Nat.le_of_ble_eq_true rfl⟩) ⟨fun a U g mk q => by obtain ⟨q0, q1, qP, qK, qD⟩ := q; exact ⟨q0, q1, qP, va_K.moved (u := U) (U := U.calling g mk a) (Vm.Alike.refl U.vm) qK, qD⟩, va_recv hKc hPc (ci := 10) (q0 := 0) rfl rfl, fun U hU hW => ⟨rfl, by rw [hU], by rw [hU]; exact hPc, va_K.moved hW.alike hKc, hDc.weaken (fun _ _ _ _ => trivial)⟩⟩ rfl rfl hl.1 rfl (lv_room (Nat.le_of_ble_eq_true rfl)) dX3_readSum_45 ⟨Nat.le_of_ble_eq_true rfl, Nat.le_of_ble_eq_true rfl⟩) hS (fun q _ h => hFc q h) hFc (fun u t H1 locs ht hvm hwra109 hB hz1 hk1 hS => ?_)
            obtain ⟨x110, hP1, hK1, hD1⟩ := hB
            rw [ht] at hP1
            obtain ⟨hP, hD⟩ := va_join (wr := (wd_6b0d8e05 h0 h1 h3 x93 h2 g0 f5 h3 g1 fn97)) (w1 := (wd_09b0abee h1 h2 v1 x110 x95 x96)) hP hD [1] [0, 2, 3] rfl rfl (by decide) (by decide) hk1 hFc hP1 hD1
            generalize H1 = H at hP hS ⊢
            have hP := hP.sub (ws' := (wd_1ad0248d h0 h1 h3 x93 h1 h2 v1 x110 x95 x96 h2 g0 f5 h3 g1 fn97)) [0, 3, 1, 2] rfl
            have hD := hD.sub (ws' := (wd_1ad0248d h0 h1 h3 x93 h1 h2 v1 x110 x95 x96 h2 g0 f5 h3 g1 fn97)) [0, 3, 1, 2] (by decide) rfl
            have hP : va_P (dC, dI) vwCl (wd_1ad0248d h0 h1 h3 x93 h1 h2 v1 x110 x95 x96 h2 g0 f5 h3 g1 fn97) H := hP
            have hD : va_D A (wd_1ad0248d h0 h1 h3 x93 h1 h2 v1 x110 x95 x96 h2 g0 f5 h3 g1 fn97) := hD
            refine lv_aload_n hx hb dX3_readSum_48 rfl (lv_at hl 2 rfl) ?_
            refine lv_iload_n hx hb dX3_readSum_49 rfl (lv_at hl 3 rfl) ?_
            have hPc := hP.sub (ws' := (wd_1ad0248d h0 h1 h3 x93 h1 h2 v1 x110 x95 x96 h2 g0 f5 h3 g1 fn97)) [0, 1, 2, 3] rfl
            have hDc := hD.sub (ws' := (wd_1ad0248d h0 h1 h3 x93 h1 h2 v1 x110 x95 x96 h2 g0 f5 h3 g1 fn97)) [0, 1, 2, 3] (by decide) rfl
            have hKc := hK.sub (tys' := [(g0, .int), (g1, .int)]) [0, 1] rfl
            have hFc := va_free (wc := (wd_1ad0248d h0 h1 h3 x93 h1 h2 v1 x110 x95 x96 h2 g0 f5 h3 g1 fn97)) hD hS hA [0, 1, 2, 3] rfl
            refine va_calli (va_runV (As := [.int 2]) (rest := []) ⟨hx, hb, hml, hown, hts⟩ (k_X3_readTerm_4 l dC dI adK adV h0 h1 h2 h3 x93 v1 x110 x95 x96 g0 f5 g1 fn97 ⟨by first | omega | decide, by first | omega | decide⟩ ⟨by first | omega | decide, by first | omega | decide⟩ H.size) (cwV 1 hts g_X3_readSum_4_0 rfl rfl rfl (by decide +kernel) ⟨Nat.le_of_ble_eq_true rfl, Nat.le_of_ble_eq_true rfl⟩) ⟨fun a U g mk q => by obtain ⟨q0, q1, qP, qK, qD, n0, n1, n2⟩ := q; exact ⟨q0, q1, qP, va_K.moved (u := U) (U := U.calling g mk a) (Vm.Alike.refl U.vm) qK, qD, vk_R.same rfl n0, va_Z.moved (Vm.Alike.refl _) n1, vk_S.moved (Vm.Alike.refl _) n2⟩, va_recv hKc hPc (ci := 3) (q0 := 0) rfl rfl, fun U hU hW => ⟨rfl, by rw [hU], by rw [hU]; exact hPc, va_K.moved hW.alike hKc, hDc.weaken (fun _ _ _ _ => trivial), vk_R.warm hW h_vr_2, (by rw [hU]; exact (va_Z.moved hW.alike (va_Z.kept h_st_CS hS.2.1)).narrow hFc), (by rw [hU]; exact (vk_S.moved hW.alike (vk_S.kept h_st_S hS.2.1)).narrow hFc)⟩⟩ rfl rfl hl.1 rfl (lv_room (Nat.le_of_ble_eq_true rfl)) dX3_readSum_50 ⟨Nat.le_of_ble_eq_true rfl, Nat.le_of_ble_eq_true rfl⟩) hS (fun q _ h => hFc q h) hFc (fun ra111 u t H1 locs ht hvm hwra111 hB hz1 hk1 hS => ?_)
            obtain ⟨x112, x113, x114, x115, fn116, oa_x112, ob_x112, hP1, hK1, hD1⟩ := hB
            rw [ht] at hP1
            obtain ⟨hP, hD⟩ := va_join (wr := []) (w1 := (wd_1ad0248d h0 h1 h3 x112 h1 h2 v1 x113 x114 x115 h2 g0 f5 h3 g1 fn116)) hP hD [0, 1, 2, 3] [] rfl rfl (by decide) (by decide) hk1 hFc hP1 hD1
            generalize H1 = H at hP hS ⊢
            have hP : va_P (dC, dI) vwCl (wd_1ad0248d h0 h1 h3 x112 h1 h2 v1 x113 x114 x115 h2 g0 f5 h3 g1 fn116) H := hP
            have hD : va_D A (wd_1ad0248d h0 h1 h3 x112 h1 h2 v1 x113 x114 x115 h2 g0 f5 h3 g1 fn116) := hD
            obtain ⟨wa_ra111, wb_ra111⟩ := hwra111
            have wa_ra111 : 0 ≤ ra111.toInt := wa_ra111
            have wb_ra111 : ra111.toInt ≤ 1 := wb_ra111
            refine lv_if_ne (tgt := 58) hx hb dX3_readSum_53 (by decide) (fun c117 => ?_) (fun c117 => ?_)
            · skip
              have fc117 : ¬ (ra111.toInt = 0) := fun h9 => c117 (Int32.toInt_inj.mp h9)
              refine lv_aload_n hx hb dX3_readSum_58 rfl (lv_at hl 2 rfl) ?_
              refine lv_iload_n hx hb dX3_readSum_59 rfl (lv_at hl 0 rfl) ?_
              refine lv_bipush (v := 43) hx hb dX3_readSum_60 (by decide) ?_
              refine lv_icmp_ne (tgt := 69) hx hb dX3_readSum_62 (by decide) (fun c118 => by exfalso; have fc118 : ¬ (ra106.toInt = 43) := fun h9 => c118 (Int32.toInt_inj.mp h9); omega) (fun _ => ?_)
              refine lv_iconst (v := 2) hx hb dX3_readSum_65 (by decide) ?_
              refine lv_goto (tgt := 70) hx hb dX3_readSum_66 (by decide) ?_
              refine lv_iconst (v := 0) hx hb dX3_readSum_70 (by decide) ?_
              have hPc := hP.sub (ws' := (wd_b958b9da h0 h1 h3 x112 h3 g1 fn116)) [0, 3] rfl
              have hDc := hD.sub (ws' := (wd_b958b9da h0 h1 h3 x112 h3 g1 fn116)) [0, 3] (by decide) rfl
              have hKc := hK.sub (tys' := [(g1, .int)]) [1] rfl
              have hFc := va_free (wc := (wd_b958b9da h0 h1 h3 x112 h3 g1 fn116)) hD hS hA [0, 3] rfl
              refine va_callv (va_runV (As := [.int 2, .int 0]) (rest := []) ⟨hx, hb, hml, hown, hts⟩ (k_X3_write l dC dI h0 h3 h1 x112 g1 fn116 2 0 ⟨by first | omega | decide, by first | omega | decide⟩ H.size) (cwV 2 hts g_X3_readSum_4_4 rfl rfl rfl (by decide +kernel) ⟨Nat.le_of_ble_eq_true rfl, Nat.le_of_ble_eq_true rfl⟩) ⟨fun a U g mk q => by obtain ⟨q0, q1, qP, qK, qD⟩ := q; exact ⟨q0, q1, qP, va_K.moved (u := U) (U := U.calling g mk a) (Vm.Alike.refl U.vm) qK, qD⟩, va_recv hKc hPc (ci := 3) (q0 := 0) rfl rfl, fun U hU hW => ⟨rfl, by rw [hU], by rw [hU]; exact hPc, va_K.moved hW.alike hKc, hDc.weaken (fun _ _ _ _ => trivial)⟩⟩ rfl rfl hl.1 rfl (lv_room (Nat.le_of_ble_eq_true rfl)) dX3_readSum_71 ⟨Nat.le_of_ble_eq_true rfl, Nat.le_of_ble_eq_true rfl⟩) hS (fun q _ h => hFc q h) hFc (fun u t H1 locs ht hvm hwra119 hB hz1 hk1 hS => ?_)
              obtain ⟨x120, fn121, oa_x120, ob_x120, hP1, hK1, hD1⟩ := hB
              rw [ht] at hP1
              obtain ⟨hP, hD⟩ := va_join (wr := (wd_82cdd16b h1 h2 v1 x113 x114 x115 h2 g0 f5)) (w1 := (wd_b958b9da h0 h1 h3 x120 h3 g1 fn121)) hP hD [0, 3] [1, 2] rfl rfl (by decide) (by decide) hk1 hFc hP1 hD1
              generalize H1 = H at hP hS ⊢
              have hP := hP.sub (ws' := (wd_1ad0248d h0 h1 h3 x120 h1 h2 v1 x113 x114 x115 h2 g0 f5 h3 g1 fn121)) [2, 0, 1, 3] rfl
              have hD := hD.sub (ws' := (wd_1ad0248d h0 h1 h3 x120 h1 h2 v1 x113 x114 x115 h2 g0 f5 h3 g1 fn121)) [2, 0, 1, 3] (by decide) rfl
              have hP : va_P (dC, dI) vwCl (wd_1ad0248d h0 h1 h3 x120 h1 h2 v1 x113 x114 x115 h2 g0 f5 h3 g1 fn121) H := hP
              have hD : va_D A (wd_1ad0248d h0 h1 h3 x120 h1 h2 v1 x113 x114 x115 h2 g0 f5 h3 g1 fn121) := hD
              obtain ⟨t122, et122⟩ : ∃ y : Int32, y = x92 + 1 := ⟨_, rfl⟩
              have gt122 : t122.toInt = x92.toInt + (1) := pv_add (a := x92.toInt) (b := (1)) et122 rfl (by decide) (by omega) (by omega)
              refine lv_iinc (v := t122) (lv' := [(2, .int t122), (3, .int ra106), (0, .ref h0), (1, .int 2)]) hx hb dX3_readSum_74 hl (k := 1) rfl (by rw [et122]; rfl) (by decide) rfl (fun ls hl => ?_)
              refine lv_goto (tgt := 12) hx hb dX3_readSum_77 (by decide) ?_
              exact ih_hL104 t122 x120 x113 x114 x115 fn121 H locs ls (by first | omega | decide) (by first | omega | decide) (by first | omega | decide) (by first | omega | decide) (by first | omega | (simp only [Int.toNat] at *; omega)) hP hD hS (lv_sub hl [0, 2, 3] rfl)
            · skip
              have fc117 : ra111.toInt = 0 := congrArg Int32.toInt c117
              refine lv_iconst (v := 0) hx hb dX3_readSum_56 (by decide) ?_
              subst hQ
              have hP9 := hP.sub (ws' := (wd_1ad0248d h0 h1 h3 x112 h1 h2 v1 x113 x114 x115 h2 g0 f5 h3 g1 fn116)) [0, 1, 2, 3] rfl
              have hD9 := hD.sub (ws' := (wd_1ad0248d h0 h1 h3 x112 h1 h2 v1 x113 x114 x115 h2 g0 f5 h3 g1 fn116)) [0, 1, 2, 3] (by decide) rfl
              have hK9 := hK.sub (tys' := []) [] rfl
              exact W.zret (v := 0) hx hb hr rfl (fun t ht hW => ⟨⟨0, (), rfl, ⟨by first | omega | decide, by first | omega | decide⟩, x112, x113, x114, x115, fn116, by first | omega | decide, by first | omega | decide, by rw [ht]; exact hP9, va_K.moved hW.alike hK9, hD9⟩, hS.F ht⟩) hS.2.2 dX3_readSum_57
          · skip
            have fc108 : ¬ (ra106.toInt = 43) := fun h9 => c108 (Int32.toInt_inj.mp h9)
            refine lv_iload_n hx hb dX3_readSum_33 rfl (lv_at hl 0 rfl) ?_
            refine lv_bipush (v := 45) hx hb dX3_readSum_34 (by decide) ?_
            refine lv_icmp_eq (tgt := 41) hx hb dX3_readSum_36 (by decide) (fun c123 => ?_) (fun c123 => ?_)
            · skip
              have fc123 : ra106.toInt = 45 := congrArg Int32.toInt c123
              refine lv_aload_n hx hb dX3_readSum_41 rfl (lv_at hl 2 rfl) ?_
              refine va_get (D := (dC, dI)) (ci := 3) (v := .ref h1) (C := RX3) (T := TX3) (N := 3) hx hb hts (fun _ h => List.mem_cons_of_mem _ (List.mem_append_left _ (List.mem_append_right _ h))) hown hK hP 0 rfl rfl 0 (by decide) (hts (.fieldLink RX3 19 "LeftArguments$LawReader" "tape" "LLeftArguments$Tape;") (List.mem_cons_of_mem _ (List.mem_append_left _ (List.mem_append_left _ (List.mem_of_getElem? (i := 2) rfl))))) (fun _ h9 => h9) rfl dX3_readSum_42 ?_
              have hPc := hP.sub (ws' := (wd_09b0abee h1 h2 v1 x107 x95 x96)) [1] rfl
              have hDc := hD.sub (ws' := (wd_09b0abee h1 h2 v1 x107 x95 x96)) [1] (by decide) rfl
              have hKc := hK.sub (tys' := []) [] rfl
              have hFc := va_free (wc := (wd_09b0abee h1 h2 v1 x107 x95 x96)) hD hS hA [1] rfl
              refine va_callv (va_runV (As := []) (rest := []) ⟨hx, hb, hml, hown, hts⟩ (k_X10_step l dC dI h1 h2 v1 x107 x95 x96 ⟨by first | omega | decide, by first | omega | decide⟩ H.size) (cwV 0 hts g_X3_readSum_4_2 rfl rfl rfl (by decide +kernel) ⟨Nat.le_of_ble_eq_true rfl, Nat.le_of_ble_eq_true rfl⟩) ⟨fun a U g mk q => by obtain ⟨q0, q1, qP, qK, qD⟩ := q; exact ⟨q0, q1, qP, va_K.moved (u := U) (U := U.calling g mk a) (Vm.Alike.refl U.vm) qK, qD⟩, va_recv hKc hPc (ci := 10) (q0 := 0) rfl rfl, fun U hU hW => ⟨rfl, by rw [hU], by rw [hU]; exact hPc, va_K.moved hW.alike hKc, hDc.weaken (fun _ _ _ _ => trivial)⟩⟩ rfl rfl hl.1 rfl (lv_room (Nat.le_of_ble_eq_true rfl)) dX3_readSum_45 ⟨Nat.le_of_ble_eq_true rfl, Nat.le_of_ble_eq_true rfl⟩) hS (fun q _ h => hFc q h) hFc (fun u t H1 locs ht hvm hwra124 hB hz1 hk1 hS => ?_)
              obtain ⟨x125, hP1, hK1, hD1⟩ := hB
              rw [ht] at hP1
              obtain ⟨hP, hD⟩ := va_join (wr := (wd_6b0d8e05 h0 h1 h3 x93 h2 g0 f5 h3 g1 fn97)) (w1 := (wd_09b0abee h1 h2 v1 x125 x95 x96)) hP hD [1] [0, 2, 3] rfl rfl (by decide) (by decide) hk1 hFc hP1 hD1
              generalize H1 = H at hP hS ⊢
              have hP := hP.sub (ws' := (wd_1ad0248d h0 h1 h3 x93 h1 h2 v1 x125 x95 x96 h2 g0 f5 h3 g1 fn97)) [0, 3, 1, 2] rfl
              have hD := hD.sub (ws' := (wd_1ad0248d h0 h1 h3 x93 h1 h2 v1 x125 x95 x96 h2 g0 f5 h3 g1 fn97)) [0, 3, 1, 2] (by decide) rfl
              have hP : va_P (dC, dI) vwCl (wd_1ad0248d h0 h1 h3 x93 h1 h2 v1 x125 x95 x96 h2 g0 f5 h3 g1 fn97) H := hP
              have hD : va_D A (wd_1ad0248d h0 h1 h3 x93 h1 h2 v1 x125 x95 x96 h2 g0 f5 h3 g1 fn97) := hD
              refine lv_aload_n hx hb dX3_readSum_48 rfl (lv_at hl 2 rfl) ?_
              refine lv_iload_n hx hb dX3_readSum_49 rfl (lv_at hl 3 rfl) ?_
              have hPc := hP.sub (ws' := (wd_1ad0248d h0 h1 h3 x93 h1 h2 v1 x125 x95 x96 h2 g0 f5 h3 g1 fn97)) [0, 1, 2, 3] rfl
              have hDc := hD.sub (ws' := (wd_1ad0248d h0 h1 h3 x93 h1 h2 v1 x125 x95 x96 h2 g0 f5 h3 g1 fn97)) [0, 1, 2, 3] (by decide) rfl
              have hKc := hK.sub (tys' := [(g0, .int), (g1, .int)]) [0, 1] rfl
              have hFc := va_free (wc := (wd_1ad0248d h0 h1 h3 x93 h1 h2 v1 x125 x95 x96 h2 g0 f5 h3 g1 fn97)) hD hS hA [0, 1, 2, 3] rfl
              refine va_calli (va_runV (As := [.int 2]) (rest := []) ⟨hx, hb, hml, hown, hts⟩ (k_X3_readTerm_4 l dC dI adK adV h0 h1 h2 h3 x93 v1 x125 x95 x96 g0 f5 g1 fn97 ⟨by first | omega | decide, by first | omega | decide⟩ ⟨by first | omega | decide, by first | omega | decide⟩ H.size) (cwV 1 hts g_X3_readSum_4_0 rfl rfl rfl (by decide +kernel) ⟨Nat.le_of_ble_eq_true rfl, Nat.le_of_ble_eq_true rfl⟩) ⟨fun a U g mk q => by obtain ⟨q0, q1, qP, qK, qD, n0, n1, n2⟩ := q; exact ⟨q0, q1, qP, va_K.moved (u := U) (U := U.calling g mk a) (Vm.Alike.refl U.vm) qK, qD, vk_R.same rfl n0, va_Z.moved (Vm.Alike.refl _) n1, vk_S.moved (Vm.Alike.refl _) n2⟩, va_recv hKc hPc (ci := 3) (q0 := 0) rfl rfl, fun U hU hW => ⟨rfl, by rw [hU], by rw [hU]; exact hPc, va_K.moved hW.alike hKc, hDc.weaken (fun _ _ _ _ => trivial), vk_R.warm hW h_vr_2, (by rw [hU]; exact (va_Z.moved hW.alike (va_Z.kept h_st_CS hS.2.1)).narrow hFc), (by rw [hU]; exact (vk_S.moved hW.alike (vk_S.kept h_st_S hS.2.1)).narrow hFc)⟩⟩ rfl rfl hl.1 rfl (lv_room (Nat.le_of_ble_eq_true rfl)) dX3_readSum_50 ⟨Nat.le_of_ble_eq_true rfl, Nat.le_of_ble_eq_true rfl⟩) hS (fun q _ h => hFc q h) hFc (fun ra126 u t H1 locs ht hvm hwra126 hB hz1 hk1 hS => ?_)
              obtain ⟨x127, x128, x129, x130, fn131, oa_x127, ob_x127, hP1, hK1, hD1⟩ := hB
              rw [ht] at hP1
              obtain ⟨hP, hD⟩ := va_join (wr := []) (w1 := (wd_1ad0248d h0 h1 h3 x127 h1 h2 v1 x128 x129 x130 h2 g0 f5 h3 g1 fn131)) hP hD [0, 1, 2, 3] [] rfl rfl (by decide) (by decide) hk1 hFc hP1 hD1
              generalize H1 = H at hP hS ⊢
              have hP : va_P (dC, dI) vwCl (wd_1ad0248d h0 h1 h3 x127 h1 h2 v1 x128 x129 x130 h2 g0 f5 h3 g1 fn131) H := hP
              have hD : va_D A (wd_1ad0248d h0 h1 h3 x127 h1 h2 v1 x128 x129 x130 h2 g0 f5 h3 g1 fn131) := hD
              obtain ⟨wa_ra126, wb_ra126⟩ := hwra126
              have wa_ra126 : 0 ≤ ra126.toInt := wa_ra126
              have wb_ra126 : ra126.toInt ≤ 1 := wb_ra126
              refine lv_if_ne (tgt := 58) hx hb dX3_readSum_53 (by decide) (fun c132 => ?_) (fun c132 => ?_)
              · skip
                have fc132 : ¬ (ra126.toInt = 0) := fun h9 => c132 (Int32.toInt_inj.mp h9)
                refine lv_aload_n hx hb dX3_readSum_58 rfl (lv_at hl 2 rfl) ?_
                refine lv_iload_n hx hb dX3_readSum_59 rfl (lv_at hl 0 rfl) ?_
                refine lv_bipush (v := 43) hx hb dX3_readSum_60 (by decide) ?_
                refine lv_icmp_ne (tgt := 69) hx hb dX3_readSum_62 (by decide) (fun _ => ?_) (fun c133 => by exfalso; have fc133 : ra106.toInt = 43 := congrArg Int32.toInt c133; omega)
                refine lv_iconst (v := 3) hx hb dX3_readSum_69 (by decide) ?_
                refine lv_iconst (v := 0) hx hb dX3_readSum_70 (by decide) ?_
                have hPc := hP.sub (ws' := (wd_b958b9da h0 h1 h3 x127 h3 g1 fn131)) [0, 3] rfl
                have hDc := hD.sub (ws' := (wd_b958b9da h0 h1 h3 x127 h3 g1 fn131)) [0, 3] (by decide) rfl
                have hKc := hK.sub (tys' := [(g1, .int)]) [1] rfl
                have hFc := va_free (wc := (wd_b958b9da h0 h1 h3 x127 h3 g1 fn131)) hD hS hA [0, 3] rfl
                refine va_callv (va_runV (As := [.int 3, .int 0]) (rest := []) ⟨hx, hb, hml, hown, hts⟩ (k_X3_write l dC dI h0 h3 h1 x127 g1 fn131 3 0 ⟨by first | omega | decide, by first | omega | decide⟩ H.size) (cwV 2 hts g_X3_readSum_4_4 rfl rfl rfl (by decide +kernel) ⟨Nat.le_of_ble_eq_true rfl, Nat.le_of_ble_eq_true rfl⟩) ⟨fun a U g mk q => by obtain ⟨q0, q1, qP, qK, qD⟩ := q; exact ⟨q0, q1, qP, va_K.moved (u := U) (U := U.calling g mk a) (Vm.Alike.refl U.vm) qK, qD⟩, va_recv hKc hPc (ci := 3) (q0 := 0) rfl rfl, fun U hU hW => ⟨rfl, by rw [hU], by rw [hU]; exact hPc, va_K.moved hW.alike hKc, hDc.weaken (fun _ _ _ _ => trivial)⟩⟩ rfl rfl hl.1 rfl (lv_room (Nat.le_of_ble_eq_true rfl)) dX3_readSum_71 ⟨Nat.le_of_ble_eq_true rfl, Nat.le_of_ble_eq_true rfl⟩) hS (fun q _ h => hFc q h) hFc (fun u t H1 locs ht hvm hwra134 hB hz1 hk1 hS => ?_)
                obtain ⟨x135, fn136, oa_x135, ob_x135, hP1, hK1, hD1⟩ := hB
                rw [ht] at hP1
                obtain ⟨hP, hD⟩ := va_join (wr := (wd_82cdd16b h1 h2 v1 x128 x129 x130 h2 g0 f5)) (w1 := (wd_b958b9da h0 h1 h3 x135 h3 g1 fn136)) hP hD [0, 3] [1, 2] rfl rfl (by decide) (by decide) hk1 hFc hP1 hD1
                generalize H1 = H at hP hS ⊢
                have hP := hP.sub (ws' := (wd_1ad0248d h0 h1 h3 x135 h1 h2 v1 x128 x129 x130 h2 g0 f5 h3 g1 fn136)) [2, 0, 1, 3] rfl
                have hD := hD.sub (ws' := (wd_1ad0248d h0 h1 h3 x135 h1 h2 v1 x128 x129 x130 h2 g0 f5 h3 g1 fn136)) [2, 0, 1, 3] (by decide) rfl
                have hP : va_P (dC, dI) vwCl (wd_1ad0248d h0 h1 h3 x135 h1 h2 v1 x128 x129 x130 h2 g0 f5 h3 g1 fn136) H := hP
                have hD : va_D A (wd_1ad0248d h0 h1 h3 x135 h1 h2 v1 x128 x129 x130 h2 g0 f5 h3 g1 fn136) := hD
                obtain ⟨t137, et137⟩ : ∃ y : Int32, y = x92 + 1 := ⟨_, rfl⟩
                have gt137 : t137.toInt = x92.toInt + (1) := pv_add (a := x92.toInt) (b := (1)) et137 rfl (by decide) (by omega) (by omega)
                refine lv_iinc (v := t137) (lv' := [(2, .int t137), (3, .int ra106), (0, .ref h0), (1, .int 2)]) hx hb dX3_readSum_74 hl (k := 1) rfl (by rw [et137]; rfl) (by decide) rfl (fun ls hl => ?_)
                refine lv_goto (tgt := 12) hx hb dX3_readSum_77 (by decide) ?_
                exact ih_hL104 t137 x135 x128 x129 x130 fn136 H locs ls (by first | omega | decide) (by first | omega | decide) (by first | omega | decide) (by first | omega | decide) (by first | omega | (simp only [Int.toNat] at *; omega)) hP hD hS (lv_sub hl [0, 2, 3] rfl)
              · skip
                have fc132 : ra126.toInt = 0 := congrArg Int32.toInt c132
                refine lv_iconst (v := 0) hx hb dX3_readSum_56 (by decide) ?_
                subst hQ
                have hP9 := hP.sub (ws' := (wd_1ad0248d h0 h1 h3 x127 h1 h2 v1 x128 x129 x130 h2 g0 f5 h3 g1 fn131)) [0, 1, 2, 3] rfl
                have hD9 := hD.sub (ws' := (wd_1ad0248d h0 h1 h3 x127 h1 h2 v1 x128 x129 x130 h2 g0 f5 h3 g1 fn131)) [0, 1, 2, 3] (by decide) rfl
                have hK9 := hK.sub (tys' := []) [] rfl
                exact W.zret (v := 0) hx hb hr rfl (fun t ht hW => ⟨⟨0, (), rfl, ⟨by first | omega | decide, by first | omega | decide⟩, x127, x128, x129, x130, fn131, by first | omega | decide, by first | omega | decide, by rw [ht]; exact hP9, va_K.moved hW.alike hK9, hD9⟩, hS.F ht⟩) hS.2.2 dX3_readSum_57
            · skip
              have fc123 : ¬ (ra106.toInt = 45) := fun h9 => c123 (Int32.toInt_inj.mp h9)
              refine lv_iconst (v := 1) hx hb dX3_readSum_39 (by decide) ?_
              subst hQ
              have hP9 := hP.sub (ws' := (wd_1ad0248d h0 h1 h3 x93 h1 h2 v1 x107 x95 x96 h2 g0 f5 h3 g1 fn97)) [0, 1, 2, 3] rfl
              have hD9 := hD.sub (ws' := (wd_1ad0248d h0 h1 h3 x93 h1 h2 v1 x107 x95 x96 h2 g0 f5 h3 g1 fn97)) [0, 1, 2, 3] (by decide) rfl
              have hK9 := hK.sub (tys' := []) [] rfl
              exact W.zret (v := 1) hx hb hr rfl (fun t ht hW => ⟨⟨1, (), rfl, ⟨by first | omega | decide, by first | omega | decide⟩, x93, x107, x95, x96, fn97, by first | omega | decide, by first | omega | decide, by rw [ht]; exact hP9, va_K.moved hW.alike hK9, hD9⟩, hS.F ht⟩) hS.2.2 dX3_readSum_40
    exact hL104 _ 0 x2 x3 x4 x5 fn6 H locs ls (by first | omega | decide) (by first | omega | decide) (by first | omega | decide) (by first | omega | decide) (Nat.lt_succ_self _) hP hD hS (lv_sub hl [0, 1, 2] rfl)
  · skip
    have fc7 : ra1.toInt = 0 := congrArg Int32.toInt c7
    refine lv_iconst (v := 0) hx hb dX3_readSum_8 (by decide) ?_
    subst hQ
    have hP9 := hP.sub (ws' := (wd_1ad0248d h0 h1 h3 x2 h1 h2 v1 x3 x4 x5 h2 g0 f5 h3 g1 fn6)) [0, 1, 2, 3] rfl
    have hD9 := hD.sub (ws' := (wd_1ad0248d h0 h1 h3 x2 h1 h2 v1 x3 x4 x5 h2 g0 f5 h3 g1 fn6)) [0, 1, 2, 3] (by decide) rfl
    have hK9 := hK.sub (tys' := []) [] rfl
    exact W.zret (v := 0) hx hb hr rfl (fun t ht hW => ⟨⟨0, (), rfl, ⟨by first | omega | decide, by first | omega | decide⟩, x2, x3, x4, x5, fn6, by first | omega | decide, by first | omega | decide, by rw [ht]; exact hP9, va_K.moved hW.alike hK9, hD9⟩, hS.F ht⟩) hS.2.2 dX3_readSum_9
def q_X3_readAtom_5 : List Cond := .code yX3_readAtom cX3_readAtom 4 (some .boolean) :: (([.fieldLink RX3 19 "LeftArguments$LawReader" "tape" "LLeftArguments$Tape;", .code yX10_next cX10_next 1 (some .int), .fieldLink RX10 19 "LeftArguments$Tape" "at" "I", .fieldLink RX10 15 "LeftArguments$Tape" "used" "I", .fieldLink RX10 9 "LeftArguments$Tape" "bytes" "[I", .initialized RX10, .instanceMethod yX10_next, .selects RX10 yX10_next yX10_next, .methodLink RX3 48 yX10_next, .code yX10_isDigit cX10_isDigit 1 (some .boolean), .static yX10_isDigit, .methodLink RX3 92 yX10_isDigit, .code yX10_step cX10_step 1 none, .instanceMethod yX10_step, .selects RX10 yX10_step yX10_step, .methodLink RX3 77 yX10_step, .code yX3_write cX3_write 3 none, .fieldLink RX3 15 "LeftArguments$LawReader" "used" "I", .fieldLink RX3 11 "LeftArguments$LawReader" "code" "[I", .initialized RX3, .instanceMethod yX3_write, .selects RX3 yX3_write yX3_write, .methodLink RX3 66 yX3_write, .code yX10_wrongHere cX10_wrongHere 1 (some .boolean), .fieldLink RX10 22 "LeftArguments$Tape" "wrongAt" "I", .instanceMethod yX10_wrongHere, .selects RX10 yX10_wrongHere yX10_wrongHere, .methodLink RX3 83 yX10_wrongHere, .code yJ0_indexOf_0f7a4 cJ0_indexOf_0f7a4 2 (some .int), .code yJ0_indexOf_7cf53 cJ0_indexOf_7cf53 3 (some .int), .code yJ0_isLatin1_aae02 cJ0_isLatin1_aae02 1 (some .boolean), .fieldLink RJ0 38 "java/lang/String" "COMPACT_STRINGS" "Z", .fieldLink RJ0 15 "java/lang/String" "coder" "B", .initialized RJ0, .instanceMethod yJ0_isLatin1_aae02, .selects RJ0 yJ0_isLatin1_aae02 yJ0_isLatin1_aae02, .methodLink RJ0 492 yJ0_isLatin1_aae02, .fieldLink RJ0 9 "java/lang/String" "value" "[B", .code yJ0_length_8abf5 cJ0_length_8abf5 1 (some .int), .code yJ0_coder_7d493 cJ0_coder_7d493 1 (some .byte), .instanceMethod yJ0_coder_7d493, .selects RJ0 yJ0_coder_7d493 yJ0_coder_7d493, .methodLink RJ0 335 yJ0_coder_7d493, .instanceMethod yJ0_length_8abf5, .selects RJ0 yJ0_length_8abf5 yJ0_length_8abf5, .methodLink RJ0 505 yJ0_length_8abf5, .code yJ1_indexOf_4cfef cJ1_indexOf_4cfef 4 (some .int), .code yJ1_canEncode_9a6ad cJ1_canEncode_9a6ad 1 (some .boolean), .initialized RJ1, .static yJ1_canEncode_9a6ad, .methodLink RJ1 88 yJ1_canEncode_9a6ad, .methodLink RJ1 92 Lib.Math.max.name, .static Lib.Math.max.name, .initialized "java/lang/Math", .code Lib.Math.max.name Lib.Math.max.code 2 (some .int), .methodLink RJ1 38 Lib.Math.min.name, .static Lib.Math.min.name, .code Lib.Math.min.name Lib.Math.min.code 2 (some .int), .code yJ1_indexOfChar_4cfef cJ1_indexOfChar_4cfef 6 (some .int), .static yJ1_indexOfChar_4cfef, .methodLink RJ1 95 yJ1_indexOfChar_4cfef, .static yJ1_indexOf_4cfef, .methodLink RJ0 637 yJ1_indexOf_4cfef, .instanceMethod yJ0_indexOf_7cf53, .selects RJ0 yJ0_indexOf_7cf53 yJ0_indexOf_7cf53, .methodLink RJ0 633 yJ0_indexOf_7cf53, .instanceMethod yJ0_indexOf_0f7a4, .selects RJ0 yJ0_indexOf_0f7a4 yJ0_indexOf_0f7a4, .methodLink RX3 103 yJ0_indexOf_0f7a4, .code yX10_takeNumber cX10_takeNumber 3 (some .boolean), .methodLink RX10 37 yX10_next, .methodLink RX10 45 yX10_isDigit, .fieldLink RX10 25 "LeftArguments$Tape" "number" "I", .code yX10_sign cX10_sign 1 (some .int), .instanceMethod yX10_sign, .selects RX10 yX10_sign yX10_sign, .methodLink RX10 49 yX10_sign, .methodLink RX10 41 yX10_wrongHere, .instanceMethod yX10_takeNumber, .selects RX10 yX10_takeNumber yX10_takeNumber, .methodLink RX3 95 yX10_takeNumber, .code yX10_number cX10_number 1 (some .int), .instanceMethod yX10_number, .selects RX10 yX10_number yX10_number, .methodLink RX3 98 yX10_number, .code yX3_readSum cX3_readSum 4 (some .boolean), .code yX3_readTerm cX3_readTerm 4 (some .boolean), .code yX3_readAtom cX3_readAtom 4 (some .boolean), .instanceMethod yX3_readAtom, .selects RX3 yX3_readAtom yX3_readAtom, .methodLink RX3 89 yX3_readAtom, .instanceMethod yX3_readTerm, .selects RX3 yX3_readTerm yX3_readTerm, .methodLink RX3 86 yX3_readTerm, .instanceMethod yX3_readSum, .selects RX3 yX3_readSum yX3_readSum, .methodLink RX3 59 yX3_readSum, .code yX10_take cX10_take 2 (some .boolean), .instanceMethod yX10_take, .selects RX10 yX10_take yX10_take, .methodLink RX3 51 yX10_take] : List Cond) ++ wsX30 ++ wsX100)
set_option maxRecDepth 20000 in
theorem g_X3_readAtom_5_0 : GoodIn q_X3_readAtom_5 (wsV RX3 48 RX10 yX10_next q_X10_next) := goodIn_app (goodIn_r _ [9, 7, 8, 6] rfl (by decide +kernel)) (goodIn_ca (goodIn_r (.code yX10_next cX10_next 1 (some .int) :: [.fieldLink RX10 19 "LeftArguments$Tape" "at" "I", .fieldLink RX10 15 "LeftArguments$Tape" "used" "I", .fieldLink RX10 9 "LeftArguments$Tape" "bytes" "[I"]) [2, 3, 4, 5] rfl (by decide +kernel)) (goodIn_sub (fun _ h => List.mem_cons_of_mem _ (List.mem_append_right _ h)) gwX10))
set_option maxRecDepth 20000 in
theorem g_X3_readAtom_5_1 : GoodIn q_X3_readAtom_5 (va_wsS RX3 92 yX10_isDigit q_X10_isDigit) := goodIn_app (goodIn_r _ [12, 11, 6] rfl (by decide +kernel)) (goodIn_r (.code yX10_isDigit cX10_isDigit 1 (some .boolean) :: []) [10] rfl (by decide +kernel))
set_option maxRecDepth 20000 in
theorem g_X3_readAtom_5_2 : GoodIn q_X3_readAtom_5 (wsV RX3 77 RX10 yX10_step q_X10_step) := goodIn_app (goodIn_r _ [16, 14, 15, 6] rfl (by decide +kernel)) (goodIn_ca (goodIn_r (.code yX10_step cX10_step 1 none :: [.fieldLink RX10 19 "LeftArguments$Tape" "at" "I"]) [13, 3] rfl (by decide +kernel)) (goodIn_sub (fun _ h => List.mem_cons_of_mem _ (List.mem_append_right _ h)) gwX10))
set_option maxRecDepth 20000 in
theorem g_X3_readAtom_5_3 : GoodIn q_X3_readAtom_5 (wsV RX3 66 RX3 yX3_write q_X3_write) := goodIn_app (goodIn_r _ [23, 21, 22, 20] rfl (by decide +kernel)) (goodIn_ca (goodIn_r (.code yX3_write cX3_write 3 none :: [.fieldLink RX3 15 "LeftArguments$LawReader" "used" "I", .fieldLink RX3 11 "LeftArguments$LawReader" "code" "[I"]) [17, 18, 19] rfl (by decide +kernel)) (goodIn_sub (fun _ h => List.mem_cons_of_mem _ (List.mem_append_left _ (List.mem_append_right _ h))) gwX3))
set_option maxRecDepth 20000 in
theorem g_X3_readAtom_5_4 : GoodIn q_X3_readAtom_5 (wsV RX3 83 RX10 yX10_wrongHere q_X10_wrongHere) := goodIn_app (goodIn_r _ [28, 26, 27, 6] rfl (by decide +kernel)) (goodIn_ca (goodIn_r (.code yX10_wrongHere cX10_wrongHere 1 (some .boolean) :: [.fieldLink RX10 19 "LeftArguments$Tape" "at" "I", .fieldLink RX10 22 "LeftArguments$Tape" "wrongAt" "I"]) [24, 3, 25] rfl (by decide +kernel)) (goodIn_sub (fun _ h => List.mem_cons_of_mem _ (List.mem_append_right _ h)) gwX10))
set_option maxRecDepth 20000 in
theorem g_X3_readAtom_5_5 : GoodIn q_X3_readAtom_5 (wsV RX3 103 RJ0 yJ0_indexOf_0f7a4 q_J0_indexOf_0f7a4) := goodIn_app (goodIn_r _ [69, 67, 68, 34] rfl (by decide +kernel)) (goodIn_r (.code yJ0_indexOf_0f7a4 cJ0_indexOf_0f7a4 2 (some .int) :: [.code yJ0_indexOf_7cf53 cJ0_indexOf_7cf53 3 (some .int), .code yJ0_isLatin1_aae02 cJ0_isLatin1_aae02 1 (some .boolean), .fieldLink RJ0 38 "java/lang/String" "COMPACT_STRINGS" "Z", .fieldLink RJ0 15 "java/lang/String" "coder" "B", .initialized RJ0, .instanceMethod yJ0_isLatin1_aae02, .selects RJ0 yJ0_isLatin1_aae02 yJ0_isLatin1_aae02, .methodLink RJ0 492 yJ0_isLatin1_aae02, .fieldLink RJ0 9 "java/lang/String" "value" "[B", .code yJ0_length_8abf5 cJ0_length_8abf5 1 (some .int), .code yJ0_coder_7d493 cJ0_coder_7d493 1 (some .byte), .instanceMethod yJ0_coder_7d493, .selects RJ0 yJ0_coder_7d493 yJ0_coder_7d493, .methodLink RJ0 335 yJ0_coder_7d493, .instanceMethod yJ0_length_8abf5, .selects RJ0 yJ0_length_8abf5 yJ0_length_8abf5, .methodLink RJ0 505 yJ0_length_8abf5, .code yJ1_indexOf_4cfef cJ1_indexOf_4cfef 4 (some .int), .code yJ1_canEncode_9a6ad cJ1_canEncode_9a6ad 1 (some .boolean), .initialized RJ1, .static yJ1_canEncode_9a6ad, .methodLink RJ1 88 yJ1_canEncode_9a6ad, .methodLink RJ1 92 Lib.Math.max.name, .static Lib.Math.max.name, .initialized "java/lang/Math", .code Lib.Math.max.name Lib.Math.max.code 2 (some .int), .methodLink RJ1 38 Lib.Math.min.name, .static Lib.Math.min.name, .code Lib.Math.min.name Lib.Math.min.code 2 (some .int), .code yJ1_indexOfChar_4cfef cJ1_indexOfChar_4cfef 6 (some .int), .static yJ1_indexOfChar_4cfef, .methodLink RJ1 95 yJ1_indexOfChar_4cfef, .static yJ1_indexOf_4cfef, .methodLink RJ0 637 yJ1_indexOf_4cfef, .instanceMethod yJ0_indexOf_7cf53, .selects RJ0 yJ0_indexOf_7cf53 yJ0_indexOf_7cf53, .methodLink RJ0 633 yJ0_indexOf_7cf53]) [29, 30, 31, 32, 33, 34, 35, 36, 37, 38, 39, 40, 41, 42, 43, 44, 45, 46, 47, 48, 49, 50, 51, 52, 53, 54, 55, 56, 57, 58, 59, 60, 61, 62, 63, 64, 65, 66] rfl (by decide +kernel))
set_option maxRecDepth 20000 in
theorem g_X3_readAtom_5_6 : GoodIn q_X3_readAtom_5 (wsV RX3 95 RX10 yX10_takeNumber q_X10_takeNumber) := goodIn_app (goodIn_r _ [81, 79, 80, 6] rfl (by decide +kernel)) (goodIn_ca (goodIn_r (.code yX10_takeNumber cX10_takeNumber 3 (some .boolean) :: [.code yX10_next cX10_next 1 (some .int), .fieldLink RX10 19 "LeftArguments$Tape" "at" "I", .fieldLink RX10 15 "LeftArguments$Tape" "used" "I", .fieldLink RX10 9 "LeftArguments$Tape" "bytes" "[I", .initialized RX10, .instanceMethod yX10_next, .selects RX10 yX10_next yX10_next, .methodLink RX10 37 yX10_next, .code yX10_isDigit cX10_isDigit 1 (some .boolean), .static yX10_isDigit, .methodLink RX10 45 yX10_isDigit, .fieldLink RX10 25 "LeftArguments$Tape" "number" "I", .code yX10_sign cX10_sign 1 (some .int), .instanceMethod yX10_sign, .selects RX10 yX10_sign yX10_sign, .methodLink RX10 49 yX10_sign, .code yX10_wrongHere cX10_wrongHere 1 (some .boolean), .fieldLink RX10 22 "LeftArguments$Tape" "wrongAt" "I", .instanceMethod yX10_wrongHere, .selects RX10 yX10_wrongHere yX10_wrongHere, .methodLink RX10 41 yX10_wrongHere]) [70, 2, 3, 4, 5, 6, 7, 8, 71, 10, 11, 72, 73, 74, 75, 76, 77, 24, 25, 26, 27, 78] rfl (by decide +kernel)) (goodIn_sub (fun _ h => List.mem_cons_of_mem _ (List.mem_append_right _ h)) gwX10))
set_option maxRecDepth 20000 in
theorem g_X3_readAtom_5_7 : GoodIn q_X3_readAtom_5 (wsV RX3 98 RX10 yX10_number q_X10_number) := goodIn_app (goodIn_r _ [85, 83, 84, 6] rfl (by decide +kernel)) (goodIn_ca (goodIn_r (.code yX10_number cX10_number 1 (some .int) :: [.fieldLink RX10 25 "LeftArguments$Tape" "number" "I"]) [82, 73] rfl (by decide +kernel)) (goodIn_sub (fun _ h => List.mem_cons_of_mem _ (List.mem_append_right _ h)) gwX10))
set_option maxRecDepth 20000 in
theorem g_X3_readAtom_5_10 : GoodIn q_X3_readAtom_5 (wsV RX3 59 RX3 yX3_readSum q_X3_readSum_4) := goodIn_app (goodIn_r _ [97, 95, 96, 20] rfl (by decide +kernel)) (goodIn_ca (goodIn_ca (goodIn_r (.code yX3_readSum cX3_readSum 4 (some .boolean) :: [.code yX3_readTerm cX3_readTerm 4 (some .boolean), .code yX3_readAtom cX3_readAtom 4 (some .boolean), .fieldLink RX3 19 "LeftArguments$LawReader" "tape" "LLeftArguments$Tape;", .code yX10_next cX10_next 1 (some .int), .fieldLink RX10 19 "LeftArguments$Tape" "at" "I", .fieldLink RX10 15 "LeftArguments$Tape" "used" "I", .fieldLink RX10 9 "LeftArguments$Tape" "bytes" "[I", .initialized RX10, .instanceMethod yX10_next, .selects RX10 yX10_next yX10_next, .methodLink RX3 48 yX10_next, .code yX10_isDigit cX10_isDigit 1 (some .boolean), .static yX10_isDigit, .methodLink RX3 92 yX10_isDigit, .code yX10_step cX10_step 1 none, .instanceMethod yX10_step, .selects RX10 yX10_step yX10_step, .methodLink RX3 77 yX10_step, .code yX3_write cX3_write 3 none, .fieldLink RX3 15 "LeftArguments$LawReader" "used" "I", .fieldLink RX3 11 "LeftArguments$LawReader" "code" "[I", .initialized RX3, .instanceMethod yX3_write, .selects RX3 yX3_write yX3_write, .methodLink RX3 66 yX3_write, .code yX10_wrongHere cX10_wrongHere 1 (some .boolean), .fieldLink RX10 22 "LeftArguments$Tape" "wrongAt" "I", .instanceMethod yX10_wrongHere, .selects RX10 yX10_wrongHere yX10_wrongHere, .methodLink RX3 83 yX10_wrongHere, .code yJ0_indexOf_0f7a4 cJ0_indexOf_0f7a4 2 (some .int), .code yJ0_indexOf_7cf53 cJ0_indexOf_7cf53 3 (some .int), .code yJ0_isLatin1_aae02 cJ0_isLatin1_aae02 1 (some .boolean), .fieldLink RJ0 38 "java/lang/String" "COMPACT_STRINGS" "Z", .fieldLink RJ0 15 "java/lang/String" "coder" "B", .initialized RJ0, .instanceMethod yJ0_isLatin1_aae02, .selects RJ0 yJ0_isLatin1_aae02 yJ0_isLatin1_aae02, .methodLink RJ0 492 yJ0_isLatin1_aae02, .fieldLink RJ0 9 "java/lang/String" "value" "[B", .code yJ0_length_8abf5 cJ0_length_8abf5 1 (some .int), .code yJ0_coder_7d493 cJ0_coder_7d493 1 (some .byte), .instanceMethod yJ0_coder_7d493, .selects RJ0 yJ0_coder_7d493 yJ0_coder_7d493, .methodLink RJ0 335 yJ0_coder_7d493, .instanceMethod yJ0_length_8abf5, .selects RJ0 yJ0_length_8abf5 yJ0_length_8abf5, .methodLink RJ0 505 yJ0_length_8abf5, .code yJ1_indexOf_4cfef cJ1_indexOf_4cfef 4 (some .int), .code yJ1_canEncode_9a6ad cJ1_canEncode_9a6ad 1 (some .boolean), .initialized RJ1, .static yJ1_canEncode_9a6ad, .methodLink RJ1 88 yJ1_canEncode_9a6ad, .methodLink RJ1 92 Lib.Math.max.name, .static Lib.Math.max.name, .initialized "java/lang/Math", .code Lib.Math.max.name Lib.Math.max.code 2 (some .int), .methodLink RJ1 38 Lib.Math.min.name, .static Lib.Math.min.name, .code Lib.Math.min.name Lib.Math.min.code 2 (some .int), .code yJ1_indexOfChar_4cfef cJ1_indexOfChar_4cfef 6 (some .int), .static yJ1_indexOfChar_4cfef, .methodLink RJ1 95 yJ1_indexOfChar_4cfef, .static yJ1_indexOf_4cfef, .methodLink RJ0 637 yJ1_indexOf_4cfef, .instanceMethod yJ0_indexOf_7cf53, .selects RJ0 yJ0_indexOf_7cf53 yJ0_indexOf_7cf53, .methodLink RJ0 633 yJ0_indexOf_7cf53, .instanceMethod yJ0_indexOf_0f7a4, .selects RJ0 yJ0_indexOf_0f7a4 yJ0_indexOf_0f7a4, .methodLink RX3 103 yJ0_indexOf_0f7a4, .code yX10_takeNumber cX10_takeNumber 3 (some .boolean), .methodLink RX10 37 yX10_next, .methodLink RX10 45 yX10_isDigit, .fieldLink RX10 25 "LeftArguments$Tape" "number" "I", .code yX10_sign cX10_sign 1 (some .int), .instanceMethod yX10_sign, .selects RX10 yX10_sign yX10_sign, .methodLink RX10 49 yX10_sign, .methodLink RX10 41 yX10_wrongHere, .instanceMethod yX10_takeNumber, .selects RX10 yX10_takeNumber yX10_takeNumber, .methodLink RX3 95 yX10_takeNumber, .code yX10_number cX10_number 1 (some .int), .instanceMethod yX10_number, .selects RX10 yX10_number yX10_number, .methodLink RX3 98 yX10_number, .code yX3_readSum cX3_readSum 4 (some .boolean), .instanceMethod yX3_readAtom, .selects RX3 yX3_readAtom yX3_readAtom, .methodLink RX3 89 yX3_readAtom, .instanceMethod yX3_readTerm, .selects RX3 yX3_readTerm yX3_readTerm, .methodLink RX3 86 yX3_readTerm, .instanceMethod yX3_readSum, .selects RX3 yX3_readSum yX3_readSum, .methodLink RX3 59 yX3_readSum, .code yX10_take cX10_take 2 (some .boolean), .instanceMethod yX10_take, .selects RX10 yX10_take yX10_take, .methodLink RX3 51 yX10_take]) [86, 87, 88, 1, 2, 3, 4, 5, 6, 7, 8, 9, 10, 11, 12, 13, 14, 15, 16, 17, 18, 19, 20, 21, 22, 23, 24, 25, 26, 27, 28, 29, 30, 31, 32, 33, 34, 35, 36, 37, 38, 39, 40, 41, 42, 43, 44, 45, 46, 47, 48, 49, 50, 51, 52, 53, 54, 55, 56, 57, 58, 59, 60, 61, 62, 63, 64, 65, 66, 67, 68, 69, 70, 71, 72, 73, 74, 75, 76, 77, 78, 79, 80, 81, 82, 83, 84, 85, 86, 89, 90, 91, 92, 93, 94, 95, 96, 97, 98, 99, 100, 101] rfl (by decide +kernel)) (goodIn_sub (fun _ h => List.mem_cons_of_mem _ (List.mem_append_left _ (List.mem_append_right _ h))) gwX3)) (goodIn_sub (fun _ h => List.mem_cons_of_mem _ (List.mem_append_right _ h)) gwX10))
set_option maxRecDepth 20000 in
theorem g_X3_readAtom_5_11 : GoodIn q_X3_readAtom_5 (wsV RX3 51 RX10 yX10_take q_X10_take) := goodIn_app (goodIn_r _ [101, 99, 100, 6] rfl (by decide +kernel)) (goodIn_ca (goodIn_r (.code yX10_take cX10_take 2 (some .boolean) :: [.code yX10_next cX10_next 1 (some .int), .fieldLink RX10 19 "LeftArguments$Tape" "at" "I", .fieldLink RX10 15 "LeftArguments$Tape" "used" "I", .fieldLink RX10 9 "LeftArguments$Tape" "bytes" "[I", .initialized RX10, .instanceMethod yX10_next, .selects RX10 yX10_next yX10_next, .methodLink RX10 37 yX10_next, .code yX10_wrongHere cX10_wrongHere 1 (some .boolean), .fieldLink RX10 22 "LeftArguments$Tape" "wrongAt" "I", .instanceMethod yX10_wrongHere, .selects RX10 yX10_wrongHere yX10_wrongHere, .methodLink RX10 41 yX10_wrongHere]) [98, 2, 3, 4, 5, 6, 7, 8, 71, 24, 25, 26, 27, 78] rfl (by decide +kernel)) (goodIn_sub (fun _ h => List.mem_cons_of_mem _ (List.mem_append_right _ h)) gwX10))
set_option maxHeartbeats 4000000 in
set_option maxRecDepth 100000 in
theorem k_X3_readAtom_5 (l : Launch) (dC : Nat → ClassId) (dI : Nat → Nat → Nat) (adK : Nat → Nat) (adV : Nat → Nat) (h0 : Nat) (h1 : Nat) (h2 : Nat) (h3 : Nat) (v0 : Int32) (v1 : Int32) (v2 : Int32) (v3 : Int32) (v4 : Int32) (g0 : ClassId) (f5 : Nat → Int32) (g1 : ClassId) (f6 : Nat → Int32) (i_v0 : 0 ≤ v0.toInt ∧ v0.toInt ≤ 256) (i_v1 : 0 ≤ v1.toInt ∧ v1.toInt ≤ 240) (sz : Nat) : Met l yX3_readAtom q_X3_readAtom_5 ({ frames := 19, cells := 0, slots := 0, locals := 436 }) (va_Pc [.ref h0, .int 1] (fun U => U.heap.size = sz ∧ va_P (dC, dI) vwCl (wd_1ad0248d h0 h1 h3 v0 h1 h2 v1 v2 v3 v4 h2 g0 f5 h3 g1 f6) U.heap ∧ va_K (dC, dI) vwCl [(g0, .int), (g1, .int)] U ∧ va_D (fun _ => True) (wd_1ad0248d h0 h1 h3 v0 h1 h2 v1 v2 v3 v4 h2 g0 f5 h3 g1 f6) ∧ vk_R RX3 101 "zaondt" (adK 2) U ∧ va_Z "java/lang/String" "COMPACT_STRINGS" "Z" (.int 1) (va_A (wd_1ad0248d h0 h1 h3 v0 h1 h2 v1 v2 v3 v4 h2 g0 f5 h3 g1 f6) sz) U U.heap ∧ vk_S 3 pv_len3 pv_byt3 adK adV (va_A (wd_1ad0248d h0 h1 h3 v0 h1 h2 v1 v2 v3 v4 h2 g0 f5 h3 g1 f6) sz) U U.heap)) (va_Qi (fun (r : Int32) (_ : Unit) => 0 ≤ r.toInt ∧ r.toInt ≤ 1) (fun (_ : Unit) (t : State) => ∃ (o_h0_2 : Int32) (o_h1_2 : Int32) (o_h1_3 : Int32) (o_h1_4 : Int32) (o_h3 : Nat → Int32), 0 ≤ o_h0_2.toInt ∧ o_h0_2.toInt ≤ 256 ∧ va_P (dC, dI) vwCl (wd_1ad0248d h0 h1 h3 o_h0_2 h1 h2 v1 o_h1_2 o_h1_3 o_h1_4 h2 g0 f5 h3 g1 o_h3) t.heap ∧ va_K (dC, dI) vwCl [] t ∧ va_D (va_A (wd_1ad0248d h0 h1 h3 v0 h1 h2 v1 v2 v3 v4 h2 g0 f5 h3 g1 f6) sz) (wd_1ad0248d h0 h1 h3 o_h0_2 h1 h2 v1 o_h1_2 o_h1_3 o_h1_4 h2 g0 f5 h3 g1 o_h3)) (va_A (wd_1ad0248d h0 h1 h3 v0 h1 h2 v1 v2 v3 v4 h2 g0 f5 h3 g1 f6) sz)) 0 0 (va_A (wd_1ad0248d h0 h1 h3 v0 h1 h2 v1 v2 v3 v4 h2 g0 f5 h3 g1 f6) sz) := by
  refine Met.ofW (cc := cX3_readAtom) (maxL := 4) (ret := (some .boolean)) (by decide) rfl ?_
  intro p e s m args below meth c s₁ B hml hv
  obtain ⟨i_v0a, i_v0b⟩ := i_v0
  obtain ⟨i_v1a, i_v1b⟩ := i_v1
  obtain ⟨rfl, hsz, hP, hK, hD0, h_vr_2, h_st_CS, h_st_S⟩ := hv
  have hx := B.exec
  have hb := B.bytes
  have hr := B.returns
  have hts := atoms_spec (ws := q_X3_readAtom_5) B.pre
  have hown : s.vm.findClass RX3 = some m.cls := findClass_of_methodNamed B.named
  have hlocks := B.notSynchronized
  subst hsz
  have hD := hD0.self (sz := s.heap.size)
  generalize hAe : va_A (wd_1ad0248d h0 h1 h3 v0 h1 h2 v1 v2 v3 v4 h2 g0 f5 h3 g1 f6) s.heap.size = A at hD h_st_CS h_st_S ⊢
  have hA : ∀ q : Nat, s.heap.size ≤ q → A q := fun q h => by rw [← hAe]; exact Or.inr h
  have hS : va_S A s.heap s.heap [] := va_S.rf
  generalize hQ : (MQ below _ _ s 0 0 A) = Q
  have hl := lv_entry ([.ref h0, .int 1]) (n := 4) (Nat.le_of_ble_eq_true rfl)
  rw [lg_entry_eq]
  generalize (lg_sl ([.ref h0, .int 1]) ++ List.replicate (4 - (lg_sl ([.ref h0, .int 1])).length) Slot.unset).toArray = ls at hl ⊢
  have hl : lv_has ls 4 [(0, .ref h0), (1, .int 1)] := hl
  obtain ⟨H, hH⟩ : ∃ H : Heap, H = s.heap := ⟨_, rfl⟩
  obtain ⟨locs, hlocs⟩ : ∃ y : List Loc, y = [] := ⟨_, rfl⟩
  have hS : va_S A s.heap H locs := by rw [hH, hlocs]; exact va_S.rf
  have hP : va_P (dC, dI) vwCl (wd_1ad0248d h0 h1 h3 v0 h1 h2 v1 v2 v3 v4 h2 g0 f5 h3 g1 f6) H := by rw [hH]; exact hP
  rw [← hH, ← hlocs]
  refine lv_aload_n hx hb dX3_readAtom_0 rfl (lv_at hl 0 rfl) ?_
  refine va_get (D := (dC, dI)) (ci := 3) (v := .ref h1) (C := RX3) (T := TX3) (N := 3) hx hb hts (fun _ h => List.mem_cons_of_mem _ (List.mem_append_left _ (List.mem_append_right _ h))) hown hK hP 0 rfl rfl 0 (by decide) (hts (.fieldLink RX3 19 "LeftArguments$LawReader" "tape" "LLeftArguments$Tape;") (List.mem_cons_of_mem _ (List.mem_append_left _ (List.mem_append_left _ (List.mem_of_getElem? (i := 0) rfl))))) (fun _ h9 => h9) rfl dX3_readAtom_1 ?_
  have hPc := hP.sub (ws' := (wd_82cdd16b h1 h2 v1 v2 v3 v4 h2 g0 f5)) [1, 2] rfl
  have hDc := hD.sub (ws' := (wd_82cdd16b h1 h2 v1 v2 v3 v4 h2 g0 f5)) [1, 2] (by decide) rfl
  have hKc := hK.sub (tys' := [(g0, .int)]) [0] rfl
  have hFc := va_free (wc := (wd_82cdd16b h1 h2 v1 v2 v3 v4 h2 g0 f5)) hD hS hA [1, 2] rfl
  refine va_calli (va_runV (As := []) (rest := []) ⟨hx, hb, hml, hown, hts⟩ (k_X10_next l dC dI h1 h2 v1 v2 v3 v4 g0 f5 ⟨by first | omega | decide, by first | omega | decide⟩ H.size) (cwV 0 hts g_X3_readAtom_5_0 rfl rfl rfl (by decide +kernel) ⟨Nat.le_of_ble_eq_true rfl, Nat.le_of_ble_eq_true rfl⟩) ⟨fun a U g mk q => by obtain ⟨q0, q1, qP, qK, qD⟩ := q; exact ⟨q0, q1, qP, va_K.moved (u := U) (U := U.calling g mk a) (Vm.Alike.refl U.vm) qK, qD⟩, va_recv hKc hPc (ci := 10) (q0 := 0) rfl rfl, fun U hU hW => ⟨rfl, by rw [hU], by rw [hU]; exact hPc, va_K.moved hW.alike hKc, hDc.weaken (fun _ _ _ _ => trivial)⟩⟩ rfl rfl hl.1 rfl (lv_room (Nat.le_of_ble_eq_true rfl)) dX3_readAtom_4 ⟨Nat.le_of_ble_eq_true rfl, Nat.le_of_ble_eq_true rfl⟩) hS (fun q _ h => hFc q h) hFc (fun ra1 u t H1 locs ht hvm hwra1 hB hz1 hk1 hS => ?_)
  obtain ⟨x2, hP1, hK1, hD1⟩ := hB
  rw [ht] at hP1
  obtain ⟨hP, hD⟩ := va_join (wr := (wd_b958b9da h0 h1 h3 v0 h3 g1 f6)) (w1 := (wd_82cdd16b h1 h2 v1 x2 v3 v4 h2 g0 f5)) hP hD [1, 2] [0, 3] rfl rfl (by decide) (by decide) hk1 hFc hP1 hD1
  generalize H1 = H at hP hS ⊢
  have hP := hP.sub (ws' := (wd_1ad0248d h0 h1 h3 v0 h1 h2 v1 x2 v3 v4 h2 g0 f5 h3 g1 f6)) [0, 2, 3, 1] rfl
  have hD := hD.sub (ws' := (wd_1ad0248d h0 h1 h3 v0 h1 h2 v1 x2 v3 v4 h2 g0 f5 h3 g1 f6)) [0, 2, 3, 1] (by decide) rfl
  have hP : va_P (dC, dI) vwCl (wd_1ad0248d h0 h1 h3 v0 h1 h2 v1 x2 v3 v4 h2 g0 f5 h3 g1 f6) H := hP
  have hD : va_D A (wd_1ad0248d h0 h1 h3 v0 h1 h2 v1 x2 v3 v4 h2 g0 f5 h3 g1 f6) := hD
  refine lv_istore_n (lv' := [(2, .int ra1), (0, .ref h0), (1, .int 1)]) hx hb dX3_readAtom_7 rfl hl (by decide) rfl (fun ls hl => ?_)
  refine lv_iload_n hx hb dX3_readAtom_8 rfl (lv_at hl 0 rfl) ?_
  refine lv_bipush (v := 91) hx hb dX3_readAtom_9 (by decide) ?_
  refine lv_icmp_ne (tgt := 55) hx hb dX3_readAtom_11 (by decide) (fun c3 => ?_) (fun c3 => ?_)
  · skip
    have fc3 : ¬ (ra1.toInt = 91) := fun h9 => c3 (Int32.toInt_inj.mp h9)
    refine lv_iload_n hx hb dX3_readAtom_55 rfl (lv_at hl 0 rfl) ?_
    have hPc := hP.sub (ws' := []) [] rfl
    have hDc := hD.sub (ws' := []) [] (by decide) rfl
    have hKc := hK.sub (tys' := []) [] rfl
    have hFc := va_free (wc := []) hD hS hA [] rfl
    refine va_calli (va_runS (As := [.int ra1]) (rest := []) ⟨hx, hb, hml, hown, hts⟩ (k_X10_isDigit l dC dI ra1  H.size) (va_cwS 1 hts g_X3_readAtom_5_1 rfl rfl rfl (by decide +kernel) ⟨Nat.le_of_ble_eq_true rfl, Nat.le_of_ble_eq_true rfl⟩) ⟨fun a U g mk q => by obtain ⟨q0, q1, qP, qK, qD⟩ := q; exact ⟨q0, q1, qP, va_K.moved (u := U) (U := U.calling g mk a) (Vm.Alike.refl U.vm) qK, qD⟩, fun U hU hW => ⟨rfl, by rw [hU], by rw [hU]; exact hPc, va_K.moved hW.alike hKc, hDc.weaken (fun _ _ _ _ => trivial)⟩⟩ rfl rfl hl.1 rfl (lv_room (Nat.le_of_ble_eq_true rfl)) dX3_readAtom_56 ⟨Nat.le_of_ble_eq_true rfl, Nat.le_of_ble_eq_true rfl⟩) hS (fun q _ h => hFc q h) hFc (fun ra4 u t H1 locs ht hvm hwra4 hB hz1 hk1 hS => ?_)
    obtain ⟨hP1, hK1, hD1⟩ := hB
    rw [ht] at hP1
    obtain ⟨hP, hD⟩ := va_join (wr := (wd_1ad0248d h0 h1 h3 v0 h1 h2 v1 x2 v3 v4 h2 g0 f5 h3 g1 f6)) (w1 := []) hP hD [] [0, 1, 2, 3] rfl rfl (by decide) (by decide) hk1 hFc hP1 hD1
    generalize H1 = H at hP hS ⊢
    have hP : va_P (dC, dI) vwCl (wd_1ad0248d h0 h1 h3 v0 h1 h2 v1 x2 v3 v4 h2 g0 f5 h3 g1 f6) H := hP
    have hD : va_D A (wd_1ad0248d h0 h1 h3 v0 h1 h2 v1 x2 v3 v4 h2 g0 f5 h3 g1 f6) := hD
    obtain ⟨wa_ra4, wb_ra4⟩ := hwra4
    have wa_ra4 : 0 ≤ ra4.toInt := wa_ra4
    have wb_ra4 : ra4.toInt ≤ 1 := wb_ra4
    refine lv_if_eq (tgt := 89) hx hb dX3_readAtom_59 (by decide) (fun c5 => ?_) (fun c5 => ?_)
    · skip
      have fc5 : ra4.toInt = 0 := congrArg Int32.toInt c5
      refine lv_iload_n hx hb dX3_readAtom_89 rfl (lv_at hl 0 rfl) ?_
      refine lv_iconst (v := (-1)) hx hb dX3_readAtom_90 (by decide) ?_
      have hJ7 : ∀ (x6 : Int32) (H : Heap) (locs : List Loc) (ls : Array Slot), -1 ≤ x6.toInt → x6.toInt ≤ 5 → va_P (dC, dI) vwCl (wd_1ad0248d h0 h1 h3 v0 h1 h2 v1 x2 v3 v4 h2 g0 f5 h3 g1 f6) H → va_D A (wd_1ad0248d h0 h1 h3 v0 h1 h2 v1 x2 v3 v4 h2 g0 f5 h3 g1 f6) → va_S A s.heap H locs → lv_has ls 4 [(2, .int ra1), (0, .ref h0), (1, .int 1)] → W p l e ({ frames := 19, cells := 0, slots := 0, locals := 436 }) s m ([.ref h0, .int 1] : List Value).toArray below meth c H locs 0 0 Q (F0 m 105 ls [.int x6]) := by
        intro x6 H locs ls qa_x6 qb_x6 hP hD hS hl
        refine lv_istore_n (lv' := [(3, .int x6), (2, .int ra1), (0, .ref h0), (1, .int 1)]) hx hb dX3_readAtom_105 rfl hl (by decide) rfl (fun ls hl => ?_)
        refine lv_iload_n hx hb dX3_readAtom_106 rfl (lv_at hl 0 rfl) ?_
        refine lv_if_ge (tgt := 118) hx hb dX3_readAtom_107 (by decide) (fun c8 => ?_) (fun c8 => ?_)
        · skip
          have fc8 : 0 ≤ x6.toInt := Int32.le_iff_toInt_le.mp c8
          refine lv_aload_n hx hb dX3_readAtom_118 rfl (lv_at hl 2 rfl) ?_
          refine va_get (D := (dC, dI)) (ci := 3) (v := .ref h1) (C := RX3) (T := TX3) (N := 3) hx hb hts (fun _ h => List.mem_cons_of_mem _ (List.mem_append_left _ (List.mem_append_right _ h))) hown hK hP 0 rfl rfl 0 (by decide) (hts (.fieldLink RX3 19 "LeftArguments$LawReader" "tape" "LLeftArguments$Tape;") (List.mem_cons_of_mem _ (List.mem_append_left _ (List.mem_append_left _ (List.mem_of_getElem? (i := 0) rfl))))) (fun _ h9 => h9) rfl dX3_readAtom_119 ?_
          have hPc := hP.sub (ws' := (wd_09b0abee h1 h2 v1 x2 v3 v4)) [1] rfl
          have hDc := hD.sub (ws' := (wd_09b0abee h1 h2 v1 x2 v3 v4)) [1] (by decide) rfl
          have hKc := hK.sub (tys' := []) [] rfl
          have hFc := va_free (wc := (wd_09b0abee h1 h2 v1 x2 v3 v4)) hD hS hA [1] rfl
          refine va_callv (va_runV (As := []) (rest := []) ⟨hx, hb, hml, hown, hts⟩ (k_X10_step l dC dI h1 h2 v1 x2 v3 v4 ⟨by first | omega | decide, by first | omega | decide⟩ H.size) (cwV 0 hts g_X3_readAtom_5_2 rfl rfl rfl (by decide +kernel) ⟨Nat.le_of_ble_eq_true rfl, Nat.le_of_ble_eq_true rfl⟩) ⟨fun a U g mk q => by obtain ⟨q0, q1, qP, qK, qD⟩ := q; exact ⟨q0, q1, qP, va_K.moved (u := U) (U := U.calling g mk a) (Vm.Alike.refl U.vm) qK, qD⟩, va_recv hKc hPc (ci := 10) (q0 := 0) rfl rfl, fun U hU hW => ⟨rfl, by rw [hU], by rw [hU]; exact hPc, va_K.moved hW.alike hKc, hDc.weaken (fun _ _ _ _ => trivial)⟩⟩ rfl rfl hl.1 rfl (lv_room (Nat.le_of_ble_eq_true rfl)) dX3_readAtom_122 ⟨Nat.le_of_ble_eq_true rfl, Nat.le_of_ble_eq_true rfl⟩) hS (fun q _ h => hFc q h) hFc (fun u t H1 locs ht hvm hwra9 hB hz1 hk1 hS => ?_)
          obtain ⟨x10, hP1, hK1, hD1⟩ := hB
          rw [ht] at hP1
          obtain ⟨hP, hD⟩ := va_join (wr := (wd_6b0d8e05 h0 h1 h3 v0 h2 g0 f5 h3 g1 f6)) (w1 := (wd_09b0abee h1 h2 v1 x10 v3 v4)) hP hD [1] [0, 2, 3] rfl rfl (by decide) (by decide) hk1 hFc hP1 hD1
          generalize H1 = H at hP hS ⊢
          have hP := hP.sub (ws' := (wd_1ad0248d h0 h1 h3 v0 h1 h2 v1 x10 v3 v4 h2 g0 f5 h3 g1 f6)) [0, 3, 1, 2] rfl
          have hD := hD.sub (ws' := (wd_1ad0248d h0 h1 h3 v0 h1 h2 v1 x10 v3 v4 h2 g0 f5 h3 g1 f6)) [0, 3, 1, 2] (by decide) rfl
          have hP : va_P (dC, dI) vwCl (wd_1ad0248d h0 h1 h3 v0 h1 h2 v1 x10 v3 v4 h2 g0 f5 h3 g1 f6) H := hP
          have hD : va_D A (wd_1ad0248d h0 h1 h3 v0 h1 h2 v1 x10 v3 v4 h2 g0 f5 h3 g1 f6) := hD
          refine lv_aload_n hx hb dX3_readAtom_125 rfl (lv_at hl 2 rfl) ?_
          refine lv_iconst (v := 1) hx hb dX3_readAtom_126 (by decide) ?_
          refine lv_iload_n hx hb dX3_readAtom_127 rfl (lv_at hl 0 rfl) ?_
          have hPc := hP.sub (ws' := (wd_b958b9da h0 h1 h3 v0 h3 g1 f6)) [0, 3] rfl
          have hDc := hD.sub (ws' := (wd_b958b9da h0 h1 h3 v0 h3 g1 f6)) [0, 3] (by decide) rfl
          have hKc := hK.sub (tys' := [(g1, .int)]) [1] rfl
          have hFc := va_free (wc := (wd_b958b9da h0 h1 h3 v0 h3 g1 f6)) hD hS hA [0, 3] rfl
          refine va_callv (va_runV (As := [.int 1, .int x6]) (rest := []) ⟨hx, hb, hml, hown, hts⟩ (k_X3_write l dC dI h0 h3 h1 v0 g1 f6 1 x6 ⟨by first | omega | decide, by first | omega | decide⟩ H.size) (cwV 2 hts g_X3_readAtom_5_3 rfl rfl rfl (by decide +kernel) ⟨Nat.le_of_ble_eq_true rfl, Nat.le_of_ble_eq_true rfl⟩) ⟨fun a U g mk q => by obtain ⟨q0, q1, qP, qK, qD⟩ := q; exact ⟨q0, q1, qP, va_K.moved (u := U) (U := U.calling g mk a) (Vm.Alike.refl U.vm) qK, qD⟩, va_recv hKc hPc (ci := 3) (q0 := 0) rfl rfl, fun U hU hW => ⟨rfl, by rw [hU], by rw [hU]; exact hPc, va_K.moved hW.alike hKc, hDc.weaken (fun _ _ _ _ => trivial)⟩⟩ rfl rfl hl.1 rfl (lv_room (Nat.le_of_ble_eq_true rfl)) dX3_readAtom_128 ⟨Nat.le_of_ble_eq_true rfl, Nat.le_of_ble_eq_true rfl⟩) hS (fun q _ h => hFc q h) hFc (fun u t H1 locs ht hvm hwra11 hB hz1 hk1 hS => ?_)
          obtain ⟨x12, fn13, oa_x12, ob_x12, hP1, hK1, hD1⟩ := hB
          rw [ht] at hP1
          obtain ⟨hP, hD⟩ := va_join (wr := (wd_82cdd16b h1 h2 v1 x10 v3 v4 h2 g0 f5)) (w1 := (wd_b958b9da h0 h1 h3 x12 h3 g1 fn13)) hP hD [0, 3] [1, 2] rfl rfl (by decide) (by decide) hk1 hFc hP1 hD1
          generalize H1 = H at hP hS ⊢
          have hP := hP.sub (ws' := (wd_1ad0248d h0 h1 h3 x12 h1 h2 v1 x10 v3 v4 h2 g0 f5 h3 g1 fn13)) [2, 0, 1, 3] rfl
          have hD := hD.sub (ws' := (wd_1ad0248d h0 h1 h3 x12 h1 h2 v1 x10 v3 v4 h2 g0 f5 h3 g1 fn13)) [2, 0, 1, 3] (by decide) rfl
          have hP : va_P (dC, dI) vwCl (wd_1ad0248d h0 h1 h3 x12 h1 h2 v1 x10 v3 v4 h2 g0 f5 h3 g1 fn13) H := hP
          have hD : va_D A (wd_1ad0248d h0 h1 h3 x12 h1 h2 v1 x10 v3 v4 h2 g0 f5 h3 g1 fn13) := hD
          refine lv_iconst (v := 1) hx hb dX3_readAtom_131 (by decide) ?_
          subst hQ
          have hP9 := hP.sub (ws' := (wd_1ad0248d h0 h1 h3 x12 h1 h2 v1 x10 v3 v4 h2 g0 f5 h3 g1 fn13)) [0, 1, 2, 3] rfl
          have hD9 := hD.sub (ws' := (wd_1ad0248d h0 h1 h3 x12 h1 h2 v1 x10 v3 v4 h2 g0 f5 h3 g1 fn13)) [0, 1, 2, 3] (by decide) rfl
          have hK9 := hK.sub (tys' := []) [] rfl
          exact W.zret (v := 1) hx hb hr rfl (fun t ht hW => ⟨⟨1, (), rfl, ⟨by first | omega | decide, by first | omega | decide⟩, x12, x10, v3, v4, fn13, by first | omega | decide, by first | omega | decide, by rw [ht]; exact hP9, va_K.moved hW.alike hK9, hD9⟩, hS.F ht⟩) hS.2.2 dX3_readAtom_132
        · skip
          have fc8 : ¬ (0 ≤ x6.toInt) := fun h9 => c8 (Int32.le_iff_toInt_le.mpr h9)
          refine lv_aload_n hx hb dX3_readAtom_110 rfl (lv_at hl 2 rfl) ?_
          refine va_get (D := (dC, dI)) (ci := 3) (v := .ref h1) (C := RX3) (T := TX3) (N := 3) hx hb hts (fun _ h => List.mem_cons_of_mem _ (List.mem_append_left _ (List.mem_append_right _ h))) hown hK hP 0 rfl rfl 0 (by decide) (hts (.fieldLink RX3 19 "LeftArguments$LawReader" "tape" "LLeftArguments$Tape;") (List.mem_cons_of_mem _ (List.mem_append_left _ (List.mem_append_left _ (List.mem_of_getElem? (i := 0) rfl))))) (fun _ h9 => h9) rfl dX3_readAtom_111 ?_
          have hPc := hP.sub (ws' := (wd_09b0abee h1 h2 v1 x2 v3 v4)) [1] rfl
          have hDc := hD.sub (ws' := (wd_09b0abee h1 h2 v1 x2 v3 v4)) [1] (by decide) rfl
          have hKc := hK.sub (tys' := []) [] rfl
          have hFc := va_free (wc := (wd_09b0abee h1 h2 v1 x2 v3 v4)) hD hS hA [1] rfl
          refine va_calli (va_runV (As := []) (rest := []) ⟨hx, hb, hml, hown, hts⟩ (k_X10_wrongHere l dC dI h1 h2 v1 x2 v3 v4 ⟨by first | omega | decide, by first | omega | decide⟩ H.size) (cwV 0 hts g_X3_readAtom_5_4 rfl rfl rfl (by decide +kernel) ⟨Nat.le_of_ble_eq_true rfl, Nat.le_of_ble_eq_true rfl⟩) ⟨fun a U g mk q => by obtain ⟨q0, q1, qP, qK, qD⟩ := q; exact ⟨q0, q1, qP, va_K.moved (u := U) (U := U.calling g mk a) (Vm.Alike.refl U.vm) qK, qD⟩, va_recv hKc hPc (ci := 10) (q0 := 0) rfl rfl, fun U hU hW => ⟨rfl, by rw [hU], by rw [hU]; exact hPc, va_K.moved hW.alike hKc, hDc.weaken (fun _ _ _ _ => trivial)⟩⟩ rfl rfl hl.1 rfl (lv_room (Nat.le_of_ble_eq_true rfl)) dX3_readAtom_114 ⟨Nat.le_of_ble_eq_true rfl, Nat.le_of_ble_eq_true rfl⟩) hS (fun q _ h => hFc q h) hFc (fun ra14 u t H1 locs ht hvm hwra14 hB hz1 hk1 hS => ?_)
          obtain ⟨x15, hP1, hK1, hD1⟩ := hB
          rw [ht] at hP1
          obtain ⟨hP, hD⟩ := va_join (wr := (wd_6b0d8e05 h0 h1 h3 v0 h2 g0 f5 h3 g1 f6)) (w1 := (wd_09b0abee h1 h2 v1 x2 x15 v4)) hP hD [1] [0, 2, 3] rfl rfl (by decide) (by decide) hk1 hFc hP1 hD1
          generalize H1 = H at hP hS ⊢
          have hP := hP.sub (ws' := (wd_1ad0248d h0 h1 h3 v0 h1 h2 v1 x2 x15 v4 h2 g0 f5 h3 g1 f6)) [0, 3, 1, 2] rfl
          have hD := hD.sub (ws' := (wd_1ad0248d h0 h1 h3 v0 h1 h2 v1 x2 x15 v4 h2 g0 f5 h3 g1 f6)) [0, 3, 1, 2] (by decide) rfl
          have hP : va_P (dC, dI) vwCl (wd_1ad0248d h0 h1 h3 v0 h1 h2 v1 x2 x15 v4 h2 g0 f5 h3 g1 f6) H := hP
          have hD : va_D A (wd_1ad0248d h0 h1 h3 v0 h1 h2 v1 x2 x15 v4 h2 g0 f5 h3 g1 f6) := hD
          obtain ⟨wa_ra14, wb_ra14⟩ := hwra14
          have wa_ra14 : 0 ≤ ra14.toInt := wa_ra14
          have wb_ra14 : ra14.toInt ≤ 0 := wb_ra14
          subst hQ
          have hP9 := hP.sub (ws' := (wd_1ad0248d h0 h1 h3 v0 h1 h2 v1 x2 x15 v4 h2 g0 f5 h3 g1 f6)) [0, 1, 2, 3] rfl
          have hD9 := hD.sub (ws' := (wd_1ad0248d h0 h1 h3 v0 h1 h2 v1 x2 x15 v4 h2 g0 f5 h3 g1 f6)) [0, 1, 2, 3] (by decide) rfl
          have hK9 := hK.sub (tys' := []) [] rfl
          exact W.zret (v := ra14) hx hb hr (pv_nz (by omega) (by omega)) (fun t ht hW => ⟨⟨ra14, (), rfl, ⟨by first | omega | decide, by first | omega | decide⟩, v0, x2, x15, v4, f6, by first | omega | decide, by first | omega | decide, by rw [ht]; exact hP9, va_K.moved hW.alike hK9, hD9⟩, hS.F ht⟩) hS.2.2 dX3_readAtom_117
      refine lv_icmp_ne (tgt := 98) hx hb dX3_readAtom_91 (by decide) (fun c16 => ?_) (fun c16 => ?_)
      · skip
        have fc16 : ¬ (ra1.toInt = (-1)) := fun h9 => c16 (Int32.toInt_inj.mp h9)
        refine va_ldcS hx hb hown h_vr_2 dX3_readAtom_98 ?_
        refine lv_iload_n hx hb dX3_readAtom_100 rfl (lv_at hl 0 rfl) ?_
        obtain ⟨t17, et17⟩ : ∃ z : Int32, z = ((ra1 : Int32).toUInt32 % 65536).toInt32 := ⟨_, rfl⟩
        refine lv_i2c (v := t17) hx hb dX3_readAtom_101 (by rw [et17]) ?_
        have hPc := hP.sub (ws' := []) [] rfl
        have hDc := hD.sub (ws' := []) [] (by decide) rfl
        have hKc := hK.sub (tys' := []) [] rfl
        have hFc := va_free (wc := []) hD hS hA [] rfl
        refine va_calli (va_runV (As := [.int t17]) (rest := []) ⟨hx, hb, hml, hown, hts⟩ (k_J0_indexOf_0f7a4 l dC dI adK adV t17  H.size) (cwV 1 hts g_X3_readAtom_5_5 rfl rfl rfl (by decide +kernel) ⟨Nat.le_of_ble_eq_true rfl, Nat.le_of_ble_eq_true rfl⟩) ⟨fun a U g mk q => by obtain ⟨q0, q1, qP, qK, qD, n0, n1⟩ := q; exact ⟨q0, q1, qP, va_K.moved (u := U) (U := U.calling g mk a) (Vm.Alike.refl U.vm) qK, qD, va_Z.moved (Vm.Alike.refl _) n0, vk_S.moved (Vm.Alike.refl _) n1⟩, vk_recv h_st_S (by decide : 2 < 3) hS, fun U hU hW => ⟨rfl, by rw [hU], by rw [hU]; exact hPc, va_K.moved hW.alike hKc, hDc.weaken (fun _ _ _ _ => trivial), (by rw [hU]; exact (va_Z.moved hW.alike (va_Z.kept h_st_CS hS.2.1)).narrow hFc), (by rw [hU]; exact (vk_S.moved hW.alike (vk_S.kept h_st_S hS.2.1)).narrow hFc)⟩⟩ rfl rfl hl.1 rfl (lv_room (Nat.le_of_ble_eq_true rfl)) dX3_readAtom_102 ⟨Nat.le_of_ble_eq_true rfl, Nat.le_of_ble_eq_true rfl⟩) hS (fun q _ h => hFc q h) hFc (fun ra18 u t H1 locs ht hvm hwra18 hB hz1 hk1 hS => ?_)
        obtain ⟨hP1, hK1, hD1⟩ := hB
        rw [ht] at hP1
        obtain ⟨hP, hD⟩ := va_join (wr := (wd_1ad0248d h0 h1 h3 v0 h1 h2 v1 x2 v3 v4 h2 g0 f5 h3 g1 f6)) (w1 := []) hP hD [] [0, 1, 2, 3] rfl rfl (by decide) (by decide) hk1 hFc hP1 hD1
        generalize H1 = H at hP hS ⊢
        have hP : va_P (dC, dI) vwCl (wd_1ad0248d h0 h1 h3 v0 h1 h2 v1 x2 v3 v4 h2 g0 f5 h3 g1 f6) H := hP
        have hD : va_D A (wd_1ad0248d h0 h1 h3 v0 h1 h2 v1 x2 v3 v4 h2 g0 f5 h3 g1 f6) := hD
        obtain ⟨wa_ra18, wb_ra18⟩ := hwra18
        have wa_ra18 : -1 ≤ ra18.toInt := wa_ra18
        have wb_ra18 : ra18.toInt ≤ 5 := wb_ra18
        exact hJ7 ra18 H locs ls (by first | omega | decide) (by first | omega | decide) hP hD hS (lv_sub hl [0, 1, 2] rfl)
      · skip
        have fc16 : ra1.toInt = (-1) := congrArg Int32.toInt c16
        refine lv_iconst (v := (-1)) hx hb dX3_readAtom_94 (by decide) ?_
        refine lv_goto (tgt := 105) hx hb dX3_readAtom_95 (by decide) ?_
        exact hJ7 ((-1)) H locs ls (by first | omega | decide) (by first | omega | decide) hP hD hS (lv_sub hl [0, 1, 2] rfl)
    · skip
      have fc5 : ¬ (ra4.toInt = 0) := fun h9 => c5 (Int32.toInt_inj.mp h9)
      refine lv_aload_n hx hb dX3_readAtom_62 rfl (lv_at hl 1 rfl) ?_
      refine va_get (D := (dC, dI)) (ci := 3) (v := .ref h1) (C := RX3) (T := TX3) (N := 3) hx hb hts (fun _ h => List.mem_cons_of_mem _ (List.mem_append_left _ (List.mem_append_right _ h))) hown hK hP 0 rfl rfl 0 (by decide) (hts (.fieldLink RX3 19 "LeftArguments$LawReader" "tape" "LLeftArguments$Tape;") (List.mem_cons_of_mem _ (List.mem_append_left _ (List.mem_append_left _ (List.mem_of_getElem? (i := 0) rfl))))) (fun _ h9 => h9) rfl dX3_readAtom_63 ?_
      refine lv_iconst (v := 4) hx hb dX3_readAtom_66 (by decide) ?_
      have hPc := hP.sub (ws' := (wd_82cdd16b h1 h2 v1 x2 v3 v4 h2 g0 f5)) [1, 2] rfl
      have hDc := hD.sub (ws' := (wd_82cdd16b h1 h2 v1 x2 v3 v4 h2 g0 f5)) [1, 2] (by decide) rfl
      have hKc := hK.sub (tys' := [(g0, .int)]) [0] rfl
      have hFc := va_free (wc := (wd_82cdd16b h1 h2 v1 x2 v3 v4 h2 g0 f5)) hD hS hA [1, 2] rfl
      refine va_calli (va_runV (As := [.int 4]) (rest := []) ⟨hx, hb, hml, hown, hts⟩ (k_X10_takeNumber l dC dI h1 h2 v1 x2 v3 v4 g0 f5 4 ⟨by first | omega | decide, by first | omega | decide⟩ H.size) (cwV 1 hts g_X3_readAtom_5_6 rfl rfl rfl (by decide +kernel) ⟨Nat.le_of_ble_eq_true rfl, Nat.le_of_ble_eq_true rfl⟩) ⟨fun a U g mk q => by obtain ⟨q0, q1, qP, qK, qD⟩ := q; exact ⟨q0, q1, qP, va_K.moved (u := U) (U := U.calling g mk a) (Vm.Alike.refl U.vm) qK, qD⟩, va_recv hKc hPc (ci := 10) (q0 := 0) rfl rfl, fun U hU hW => ⟨rfl, by rw [hU], by rw [hU]; exact hPc, va_K.moved hW.alike hKc, hDc.weaken (fun _ _ _ _ => trivial)⟩⟩ rfl rfl hl.1 rfl (lv_room (Nat.le_of_ble_eq_true rfl)) dX3_readAtom_67 ⟨Nat.le_of_ble_eq_true rfl, Nat.le_of_ble_eq_true rfl⟩) hS (fun q _ h => hFc q h) hFc (fun ra19 u t H1 locs ht hvm hwra19 hB hz1 hk1 hS => ?_)
      obtain ⟨x20, x21, x22, hP1, hK1, hD1⟩ := hB
      rw [ht] at hP1
      obtain ⟨hP, hD⟩ := va_join (wr := (wd_b958b9da h0 h1 h3 v0 h3 g1 f6)) (w1 := (wd_82cdd16b h1 h2 v1 x20 x21 x22 h2 g0 f5)) hP hD [1, 2] [0, 3] rfl rfl (by decide) (by decide) hk1 hFc hP1 hD1
      generalize H1 = H at hP hS ⊢
      have hP := hP.sub (ws' := (wd_1ad0248d h0 h1 h3 v0 h1 h2 v1 x20 x21 x22 h2 g0 f5 h3 g1 f6)) [0, 2, 3, 1] rfl
      have hD := hD.sub (ws' := (wd_1ad0248d h0 h1 h3 v0 h1 h2 v1 x20 x21 x22 h2 g0 f5 h3 g1 f6)) [0, 2, 3, 1] (by decide) rfl
      have hP : va_P (dC, dI) vwCl (wd_1ad0248d h0 h1 h3 v0 h1 h2 v1 x20 x21 x22 h2 g0 f5 h3 g1 f6) H := hP
      have hD : va_D A (wd_1ad0248d h0 h1 h3 v0 h1 h2 v1 x20 x21 x22 h2 g0 f5 h3 g1 f6) := hD
      obtain ⟨wa_ra19, wb_ra19⟩ := hwra19
      have wa_ra19 : 0 ≤ ra19.toInt := wa_ra19
      have wb_ra19 : ra19.toInt ≤ 1 := wb_ra19
      refine lv_if_ne (tgt := 75) hx hb dX3_readAtom_70 (by decide) (fun c23 => ?_) (fun c23 => ?_)
      · skip
        have fc23 : ¬ (ra19.toInt = 0) := fun h9 => c23 (Int32.toInt_inj.mp h9)
        refine lv_aload_n hx hb dX3_readAtom_75 rfl (lv_at hl 1 rfl) ?_
        refine lv_iconst (v := 0) hx hb dX3_readAtom_76 (by decide) ?_
        refine lv_aload_n hx hb dX3_readAtom_77 rfl (lv_at hl 1 rfl) ?_
        refine va_get (D := (dC, dI)) (ci := 3) (v := .ref h1) (C := RX3) (T := TX3) (N := 3) hx hb hts (fun _ h => List.mem_cons_of_mem _ (List.mem_append_left _ (List.mem_append_right _ h))) hown hK hP 0 rfl rfl 0 (by decide) (hts (.fieldLink RX3 19 "LeftArguments$LawReader" "tape" "LLeftArguments$Tape;") (List.mem_cons_of_mem _ (List.mem_append_left _ (List.mem_append_left _ (List.mem_of_getElem? (i := 0) rfl))))) (fun _ h9 => h9) rfl dX3_readAtom_78 ?_
        have hPc := hP.sub (ws' := (wd_09b0abee h1 h2 v1 x20 x21 x22)) [1] rfl
        have hDc := hD.sub (ws' := (wd_09b0abee h1 h2 v1 x20 x21 x22)) [1] (by decide) rfl
        have hKc := hK.sub (tys' := []) [] rfl
        have hFc := va_free (wc := (wd_09b0abee h1 h2 v1 x20 x21 x22)) hD hS hA [1] rfl
        refine va_calli (va_runV (As := []) (rest := [.int 0, .ref h0]) ⟨hx, hb, hml, hown, hts⟩ (k_X10_number l dC dI h1 h2 v1 x20 x21 x22 ⟨by first | omega | decide, by first | omega | decide⟩ H.size) (cwV 0 hts g_X3_readAtom_5_7 rfl rfl rfl (by decide +kernel) ⟨Nat.le_of_ble_eq_true rfl, Nat.le_of_ble_eq_true rfl⟩) ⟨fun a U g mk q => by obtain ⟨q0, q1, qP, qK, qD⟩ := q; exact ⟨q0, q1, qP, va_K.moved (u := U) (U := U.calling g mk a) (Vm.Alike.refl U.vm) qK, qD⟩, va_recv hKc hPc (ci := 10) (q0 := 0) rfl rfl, fun U hU hW => ⟨rfl, by rw [hU], by rw [hU]; exact hPc, va_K.moved hW.alike hKc, hDc.weaken (fun _ _ _ _ => trivial)⟩⟩ rfl rfl hl.1 rfl (lv_room (Nat.le_of_ble_eq_true rfl)) dX3_readAtom_81 ⟨Nat.le_of_ble_eq_true rfl, Nat.le_of_ble_eq_true rfl⟩) hS (fun q _ h => hFc q h) hFc (fun ra24 u t H1 locs ht hvm hwra24 hB hz1 hk1 hS => ?_)
        obtain ⟨hP1, hK1, hD1⟩ := hB
        rw [ht] at hP1
        obtain ⟨hP, hD⟩ := va_join (wr := (wd_6b0d8e05 h0 h1 h3 v0 h2 g0 f5 h3 g1 f6)) (w1 := (wd_09b0abee h1 h2 v1 x20 x21 x22)) hP hD [1] [0, 2, 3] rfl rfl (by decide) (by decide) hk1 hFc hP1 hD1
        generalize H1 = H at hP hS ⊢
        have hP := hP.sub (ws' := (wd_1ad0248d h0 h1 h3 v0 h1 h2 v1 x20 x21 x22 h2 g0 f5 h3 g1 f6)) [0, 3, 1, 2] rfl
        have hD := hD.sub (ws' := (wd_1ad0248d h0 h1 h3 v0 h1 h2 v1 x20 x21 x22 h2 g0 f5 h3 g1 f6)) [0, 3, 1, 2] (by decide) rfl
        have hP : va_P (dC, dI) vwCl (wd_1ad0248d h0 h1 h3 v0 h1 h2 v1 x20 x21 x22 h2 g0 f5 h3 g1 f6) H := hP
        have hD : va_D A (wd_1ad0248d h0 h1 h3 v0 h1 h2 v1 x20 x21 x22 h2 g0 f5 h3 g1 f6) := hD
        have hPc := hP.sub (ws' := (wd_b958b9da h0 h1 h3 v0 h3 g1 f6)) [0, 3] rfl
        have hDc := hD.sub (ws' := (wd_b958b9da h0 h1 h3 v0 h3 g1 f6)) [0, 3] (by decide) rfl
        have hKc := hK.sub (tys' := [(g1, .int)]) [1] rfl
        have hFc := va_free (wc := (wd_b958b9da h0 h1 h3 v0 h3 g1 f6)) hD hS hA [0, 3] rfl
        refine va_callv (va_runV (As := [.int 0, .int ra24]) (rest := []) ⟨hx, hb, hml, hown, hts⟩ (k_X3_write l dC dI h0 h3 h1 v0 g1 f6 0 ra24 ⟨by first | omega | decide, by first | omega | decide⟩ H.size) (cwV 2 hts g_X3_readAtom_5_3 rfl rfl rfl (by decide +kernel) ⟨Nat.le_of_ble_eq_true rfl, Nat.le_of_ble_eq_true rfl⟩) ⟨fun a U g mk q => by obtain ⟨q0, q1, qP, qK, qD⟩ := q; exact ⟨q0, q1, qP, va_K.moved (u := U) (U := U.calling g mk a) (Vm.Alike.refl U.vm) qK, qD⟩, va_recv hKc hPc (ci := 3) (q0 := 0) rfl rfl, fun U hU hW => ⟨rfl, by rw [hU], by rw [hU]; exact hPc, va_K.moved hW.alike hKc, hDc.weaken (fun _ _ _ _ => trivial)⟩⟩ rfl rfl hl.1 rfl (lv_room (Nat.le_of_ble_eq_true rfl)) dX3_readAtom_84 ⟨Nat.le_of_ble_eq_true rfl, Nat.le_of_ble_eq_true rfl⟩) hS (fun q _ h => hFc q h) hFc (fun u t H1 locs ht hvm hwra25 hB hz1 hk1 hS => ?_)
        obtain ⟨x26, fn27, oa_x26, ob_x26, hP1, hK1, hD1⟩ := hB
        rw [ht] at hP1
        obtain ⟨hP, hD⟩ := va_join (wr := (wd_82cdd16b h1 h2 v1 x20 x21 x22 h2 g0 f5)) (w1 := (wd_b958b9da h0 h1 h3 x26 h3 g1 fn27)) hP hD [0, 3] [1, 2] rfl rfl (by decide) (by decide) hk1 hFc hP1 hD1
        generalize H1 = H at hP hS ⊢
        have hP := hP.sub (ws' := (wd_1ad0248d h0 h1 h3 x26 h1 h2 v1 x20 x21 x22 h2 g0 f5 h3 g1 fn27)) [2, 0, 1, 3] rfl
        have hD := hD.sub (ws' := (wd_1ad0248d h0 h1 h3 x26 h1 h2 v1 x20 x21 x22 h2 g0 f5 h3 g1 fn27)) [2, 0, 1, 3] (by decide) rfl
        have hP : va_P (dC, dI) vwCl (wd_1ad0248d h0 h1 h3 x26 h1 h2 v1 x20 x21 x22 h2 g0 f5 h3 g1 fn27) H := hP
        have hD : va_D A (wd_1ad0248d h0 h1 h3 x26 h1 h2 v1 x20 x21 x22 h2 g0 f5 h3 g1 fn27) := hD
        refine lv_iconst (v := 1) hx hb dX3_readAtom_87 (by decide) ?_
        subst hQ
        have hP9 := hP.sub (ws' := (wd_1ad0248d h0 h1 h3 x26 h1 h2 v1 x20 x21 x22 h2 g0 f5 h3 g1 fn27)) [0, 1, 2, 3] rfl
        have hD9 := hD.sub (ws' := (wd_1ad0248d h0 h1 h3 x26 h1 h2 v1 x20 x21 x22 h2 g0 f5 h3 g1 fn27)) [0, 1, 2, 3] (by decide) rfl
        have hK9 := hK.sub (tys' := []) [] rfl
        exact W.zret (v := 1) hx hb hr rfl (fun t ht hW => ⟨⟨1, (), rfl, ⟨by first | omega | decide, by first | omega | decide⟩, x26, x20, x21, x22, fn27, by first | omega | decide, by first | omega | decide, by rw [ht]; exact hP9, va_K.moved hW.alike hK9, hD9⟩, hS.F ht⟩) hS.2.2 dX3_readAtom_88
      · skip
        have fc23 : ra19.toInt = 0 := congrArg Int32.toInt c23
        refine lv_iconst (v := 0) hx hb dX3_readAtom_73 (by decide) ?_
        subst hQ
        have hP9 := hP.sub (ws' := (wd_1ad0248d h0 h1 h3 v0 h1 h2 v1 x20 x21 x22 h2 g0 f5 h3 g1 f6)) [0, 1, 2, 3] rfl
        have hD9 := hD.sub (ws' := (wd_1ad0248d h0 h1 h3 v0 h1 h2 v1 x20 x21 x22 h2 g0 f5 h3 g1 f6)) [0, 1, 2, 3] (by decide) rfl
        have hK9 := hK.sub (tys' := []) [] rfl
        exact W.zret (v := 0) hx hb hr rfl (fun t ht hW => ⟨⟨0, (), rfl, ⟨by first | omega | decide, by first | omega | decide⟩, v0, x20, x21, x22, f6, by first | omega | decide, by first | omega | decide, by rw [ht]; exact hP9, va_K.moved hW.alike hK9, hD9⟩, hS.F ht⟩) hS.2.2 dX3_readAtom_74
  · skip
    have fc3 : ra1.toInt = 91 := congrArg Int32.toInt c3
    refine lv_iload_n hx hb dX3_readAtom_14 rfl (lv_at hl 2 rfl) ?_
    refine lv_bipush (v := 6) hx hb dX3_readAtom_15 (by decide) ?_
    refine lv_icmp_ge (tgt := 55) hx hb dX3_readAtom_17 (by decide) (fun c => absurd c (by decide)) (fun _ => ?_)
    refine lv_aload_n hx hb dX3_readAtom_20 rfl (lv_at hl 1 rfl) ?_
    refine va_get (D := (dC, dI)) (ci := 3) (v := .ref h1) (C := RX3) (T := TX3) (N := 3) hx hb hts (fun _ h => List.mem_cons_of_mem _ (List.mem_append_left _ (List.mem_append_right _ h))) hown hK hP 0 rfl rfl 0 (by decide) (hts (.fieldLink RX3 19 "LeftArguments$LawReader" "tape" "LLeftArguments$Tape;") (List.mem_cons_of_mem _ (List.mem_append_left _ (List.mem_append_left _ (List.mem_of_getElem? (i := 0) rfl))))) (fun _ h9 => h9) rfl dX3_readAtom_21 ?_
    have hPc := hP.sub (ws' := (wd_09b0abee h1 h2 v1 x2 v3 v4)) [1] rfl
    have hDc := hD.sub (ws' := (wd_09b0abee h1 h2 v1 x2 v3 v4)) [1] (by decide) rfl
    have hKc := hK.sub (tys' := []) [] rfl
    have hFc := va_free (wc := (wd_09b0abee h1 h2 v1 x2 v3 v4)) hD hS hA [1] rfl
    refine va_callv (va_runV (As := []) (rest := []) ⟨hx, hb, hml, hown, hts⟩ (k_X10_step l dC dI h1 h2 v1 x2 v3 v4 ⟨by first | omega | decide, by first | omega | decide⟩ H.size) (cwV 0 hts g_X3_readAtom_5_2 rfl rfl rfl (by decide +kernel) ⟨Nat.le_of_ble_eq_true rfl, Nat.le_of_ble_eq_true rfl⟩) ⟨fun a U g mk q => by obtain ⟨q0, q1, qP, qK, qD⟩ := q; exact ⟨q0, q1, qP, va_K.moved (u := U) (U := U.calling g mk a) (Vm.Alike.refl U.vm) qK, qD⟩, va_recv hKc hPc (ci := 10) (q0 := 0) rfl rfl, fun U hU hW => ⟨rfl, by rw [hU], by rw [hU]; exact hPc, va_K.moved hW.alike hKc, hDc.weaken (fun _ _ _ _ => trivial)⟩⟩ rfl rfl hl.1 rfl (lv_room (Nat.le_of_ble_eq_true rfl)) dX3_readAtom_24 ⟨Nat.le_of_ble_eq_true rfl, Nat.le_of_ble_eq_true rfl⟩) hS (fun q _ h => hFc q h) hFc (fun u t H1 locs ht hvm hwra28 hB hz1 hk1 hS => ?_)
    obtain ⟨x29, hP1, hK1, hD1⟩ := hB
    rw [ht] at hP1
    obtain ⟨hP, hD⟩ := va_join (wr := (wd_6b0d8e05 h0 h1 h3 v0 h2 g0 f5 h3 g1 f6)) (w1 := (wd_09b0abee h1 h2 v1 x29 v3 v4)) hP hD [1] [0, 2, 3] rfl rfl (by decide) (by decide) hk1 hFc hP1 hD1
    generalize H1 = H at hP hS ⊢
    have hP := hP.sub (ws' := (wd_1ad0248d h0 h1 h3 v0 h1 h2 v1 x29 v3 v4 h2 g0 f5 h3 g1 f6)) [0, 3, 1, 2] rfl
    have hD := hD.sub (ws' := (wd_1ad0248d h0 h1 h3 v0 h1 h2 v1 x29 v3 v4 h2 g0 f5 h3 g1 f6)) [0, 3, 1, 2] (by decide) rfl
    have hP : va_P (dC, dI) vwCl (wd_1ad0248d h0 h1 h3 v0 h1 h2 v1 x29 v3 v4 h2 g0 f5 h3 g1 f6) H := hP
    have hD : va_D A (wd_1ad0248d h0 h1 h3 v0 h1 h2 v1 x29 v3 v4 h2 g0 f5 h3 g1 f6) := hD
    refine lv_aload_n hx hb dX3_readAtom_27 rfl (lv_at hl 1 rfl) ?_
    refine lv_iload_n hx hb dX3_readAtom_28 rfl (lv_at hl 2 rfl) ?_
    refine lv_iconst (v := 1) hx hb dX3_readAtom_29 (by decide) ?_
    refine lv_iadd hx hb dX3_readAtom_30 ?_
    refine lv_topi (fun tv30 etv30 => ?_)
    obtain rfl : tv30 = (2 : Int32) := etv30.trans (by first | rfl | decide)
    have hPc := hP.sub (ws' := (wd_1ad0248d h0 h1 h3 v0 h1 h2 v1 x29 v3 v4 h2 g0 f5 h3 g1 f6)) [0, 1, 2, 3] rfl
    have hDc := hD.sub (ws' := (wd_1ad0248d h0 h1 h3 v0 h1 h2 v1 x29 v3 v4 h2 g0 f5 h3 g1 f6)) [0, 1, 2, 3] (by decide) rfl
    have hKc := hK.sub (tys' := [(g0, .int), (g1, .int)]) [0, 1] rfl
    have hFc := va_free (wc := (wd_1ad0248d h0 h1 h3 v0 h1 h2 v1 x29 v3 v4 h2 g0 f5 h3 g1 f6)) hD hS hA [0, 1, 2, 3] rfl
    refine va_calli (va_runV (As := [.int 2]) (rest := []) ⟨hx, hb, hml, hown, hts⟩ (k_X3_readSum_4 l dC dI adK adV h0 h1 h2 h3 v0 v1 x29 v3 v4 g0 f5 g1 f6 ⟨by first | omega | decide, by first | omega | decide⟩ ⟨by first | omega | decide, by first | omega | decide⟩ H.size) (cwV 1 hts g_X3_readAtom_5_10 rfl rfl rfl (by decide +kernel) ⟨Nat.le_of_ble_eq_true rfl, Nat.le_of_ble_eq_true rfl⟩) ⟨fun a U g mk q => by obtain ⟨q0, q1, qP, qK, qD, n0, n1, n2⟩ := q; exact ⟨q0, q1, qP, va_K.moved (u := U) (U := U.calling g mk a) (Vm.Alike.refl U.vm) qK, qD, vk_R.same rfl n0, va_Z.moved (Vm.Alike.refl _) n1, vk_S.moved (Vm.Alike.refl _) n2⟩, va_recv hKc hPc (ci := 3) (q0 := 0) rfl rfl, fun U hU hW => ⟨rfl, by rw [hU], by rw [hU]; exact hPc, va_K.moved hW.alike hKc, hDc.weaken (fun _ _ _ _ => trivial), vk_R.warm hW h_vr_2, (by rw [hU]; exact (va_Z.moved hW.alike (va_Z.kept h_st_CS hS.2.1)).narrow hFc), (by rw [hU]; exact (vk_S.moved hW.alike (vk_S.kept h_st_S hS.2.1)).narrow hFc)⟩⟩ rfl rfl hl.1 rfl (lv_room (Nat.le_of_ble_eq_true rfl)) dX3_readAtom_31 ⟨Nat.le_of_ble_eq_true rfl, Nat.le_of_ble_eq_true rfl⟩) hS (fun q _ h => hFc q h) hFc (fun ra31 u t H1 locs ht hvm hwra31 hB hz1 hk1 hS => ?_)
    obtain ⟨x32, x33, x34, x35, fn36, oa_x32, ob_x32, hP1, hK1, hD1⟩ := hB
    rw [ht] at hP1
    obtain ⟨hP, hD⟩ := va_join (wr := []) (w1 := (wd_1ad0248d h0 h1 h3 x32 h1 h2 v1 x33 x34 x35 h2 g0 f5 h3 g1 fn36)) hP hD [0, 1, 2, 3] [] rfl rfl (by decide) (by decide) hk1 hFc hP1 hD1
    generalize H1 = H at hP hS ⊢
    have hP : va_P (dC, dI) vwCl (wd_1ad0248d h0 h1 h3 x32 h1 h2 v1 x33 x34 x35 h2 g0 f5 h3 g1 fn36) H := hP
    have hD : va_D A (wd_1ad0248d h0 h1 h3 x32 h1 h2 v1 x33 x34 x35 h2 g0 f5 h3 g1 fn36) := hD
    obtain ⟨wa_ra31, wb_ra31⟩ := hwra31
    have wa_ra31 : 0 ≤ ra31.toInt := wa_ra31
    have wb_ra31 : ra31.toInt ≤ 1 := wb_ra31
    have hJ40 : ∀ (x37 : Int32) (x38 : Int32) (x39 : Int32) (H : Heap) (locs : List Loc) (ls : Array Slot), 0 ≤ x37.toInt → x37.toInt ≤ 1 → va_P (dC, dI) vwCl (wd_1ad0248d h0 h1 h3 x32 h1 h2 v1 x38 x39 x35 h2 g0 f5 h3 g1 fn36) H → va_D A (wd_1ad0248d h0 h1 h3 x32 h1 h2 v1 x38 x39 x35 h2 g0 f5 h3 g1 fn36) → va_S A s.heap H locs → lv_has ls 4 [(2, .int ra1), (0, .ref h0), (1, .int 1)] → W p l e ({ frames := 19, cells := 0, slots := 0, locals := 436 }) s m ([.ref h0, .int 1] : List Value).toArray below meth c H locs 0 0 Q (F0 m 54 ls [.int x37]) := by
      intro x37 x38 x39 H locs ls qa_x37 qb_x37 hP hD hS hl
      subst hQ
      have hP9 := hP.sub (ws' := (wd_1ad0248d h0 h1 h3 x32 h1 h2 v1 x38 x39 x35 h2 g0 f5 h3 g1 fn36)) [0, 1, 2, 3] rfl
      have hD9 := hD.sub (ws' := (wd_1ad0248d h0 h1 h3 x32 h1 h2 v1 x38 x39 x35 h2 g0 f5 h3 g1 fn36)) [0, 1, 2, 3] (by decide) rfl
      have hK9 := hK.sub (tys' := []) [] rfl
      exact W.zret (v := x37) hx hb hr (pv_nz (by omega) (by omega)) (fun t ht hW => ⟨⟨x37, (), rfl, ⟨by first | omega | decide, by first | omega | decide⟩, x32, x38, x39, x35, fn36, by first | omega | decide, by first | omega | decide, by rw [ht]; exact hP9, va_K.moved hW.alike hK9, hD9⟩, hS.F ht⟩) hS.2.2 dX3_readAtom_54
    refine lv_if_eq (tgt := 53) hx hb dX3_readAtom_34 (by decide) (fun c41 => ?_) (fun c41 => ?_)
    · skip
      have fc41 : ra31.toInt = 0 := congrArg Int32.toInt c41
      refine lv_iconst (v := 0) hx hb dX3_readAtom_53 (by decide) ?_
      exact hJ40 0 x33 x34 H locs ls (by first | omega | decide) (by first | omega | decide) hP hD hS (lv_sub hl [0, 1, 2] rfl)
    · skip
      have fc41 : ¬ (ra31.toInt = 0) := fun h9 => c41 (Int32.toInt_inj.mp h9)
      refine lv_aload_n hx hb dX3_readAtom_37 rfl (lv_at hl 1 rfl) ?_
      refine va_get (D := (dC, dI)) (ci := 3) (v := .ref h1) (C := RX3) (T := TX3) (N := 3) hx hb hts (fun _ h => List.mem_cons_of_mem _ (List.mem_append_left _ (List.mem_append_right _ h))) hown hK hP 0 rfl rfl 0 (by decide) (hts (.fieldLink RX3 19 "LeftArguments$LawReader" "tape" "LLeftArguments$Tape;") (List.mem_cons_of_mem _ (List.mem_append_left _ (List.mem_append_left _ (List.mem_of_getElem? (i := 0) rfl))))) (fun _ h9 => h9) rfl dX3_readAtom_38 ?_
      refine lv_bipush (v := 93) hx hb dX3_readAtom_41 (by decide) ?_
      have hPc := hP.sub (ws' := (wd_82cdd16b h1 h2 v1 x33 x34 x35 h2 g0 f5)) [1, 2] rfl
      have hDc := hD.sub (ws' := (wd_82cdd16b h1 h2 v1 x33 x34 x35 h2 g0 f5)) [1, 2] (by decide) rfl
      have hKc := hK.sub (tys' := [(g0, .int)]) [0] rfl
      have hFc := va_free (wc := (wd_82cdd16b h1 h2 v1 x33 x34 x35 h2 g0 f5)) hD hS hA [1, 2] rfl
      refine va_calli (va_runV (As := [.int 93]) (rest := []) ⟨hx, hb, hml, hown, hts⟩ (k_X10_take l dC dI h1 h2 v1 x33 x34 x35 g0 f5 93 ⟨by first | omega | decide, by first | omega | decide⟩ H.size) (cwV 1 hts g_X3_readAtom_5_11 rfl rfl rfl (by decide +kernel) ⟨Nat.le_of_ble_eq_true rfl, Nat.le_of_ble_eq_true rfl⟩) ⟨fun a U g mk q => by obtain ⟨q0, q1, qP, qK, qD⟩ := q; exact ⟨q0, q1, qP, va_K.moved (u := U) (U := U.calling g mk a) (Vm.Alike.refl U.vm) qK, qD⟩, va_recv hKc hPc (ci := 10) (q0 := 0) rfl rfl, fun U hU hW => ⟨rfl, by rw [hU], by rw [hU]; exact hPc, va_K.moved hW.alike hKc, hDc.weaken (fun _ _ _ _ => trivial)⟩⟩ rfl rfl hl.1 rfl (lv_room (Nat.le_of_ble_eq_true rfl)) dX3_readAtom_43 ⟨Nat.le_of_ble_eq_true rfl, Nat.le_of_ble_eq_true rfl⟩) hS (fun q _ h => hFc q h) hFc (fun ra42 u t H1 locs ht hvm hwra42 hB hz1 hk1 hS => ?_)
      obtain ⟨x43, x44, hP1, hK1, hD1⟩ := hB
      rw [ht] at hP1
      obtain ⟨hP, hD⟩ := va_join (wr := (wd_b958b9da h0 h1 h3 x32 h3 g1 fn36)) (w1 := (wd_82cdd16b h1 h2 v1 x43 x44 x35 h2 g0 f5)) hP hD [1, 2] [0, 3] rfl rfl (by decide) (by decide) hk1 hFc hP1 hD1
      generalize H1 = H at hP hS ⊢
      have hP := hP.sub (ws' := (wd_1ad0248d h0 h1 h3 x32 h1 h2 v1 x43 x44 x35 h2 g0 f5 h3 g1 fn36)) [0, 2, 3, 1] rfl
      have hD := hD.sub (ws' := (wd_1ad0248d h0 h1 h3 x32 h1 h2 v1 x43 x44 x35 h2 g0 f5 h3 g1 fn36)) [0, 2, 3, 1] (by decide) rfl
      have hP : va_P (dC, dI) vwCl (wd_1ad0248d h0 h1 h3 x32 h1 h2 v1 x43 x44 x35 h2 g0 f5 h3 g1 fn36) H := hP
      have hD : va_D A (wd_1ad0248d h0 h1 h3 x32 h1 h2 v1 x43 x44 x35 h2 g0 f5 h3 g1 fn36) := hD
      obtain ⟨wa_ra42, wb_ra42⟩ := hwra42
      have wa_ra42 : 0 ≤ ra42.toInt := wa_ra42
      have wb_ra42 : ra42.toInt ≤ 1 := wb_ra42
      refine lv_if_eq (tgt := 53) hx hb dX3_readAtom_46 (by decide) (fun c45 => ?_) (fun c45 => ?_)
      · skip
        have fc45 : ra42.toInt = 0 := congrArg Int32.toInt c45
        refine lv_iconst (v := 0) hx hb dX3_readAtom_53 (by decide) ?_
        exact hJ40 0 x43 x44 H locs ls (by first | omega | decide) (by first | omega | decide) hP hD hS (lv_sub hl [0, 1, 2] rfl)
      · skip
        have fc45 : ¬ (ra42.toInt = 0) := fun h9 => c45 (Int32.toInt_inj.mp h9)
        refine lv_iconst (v := 1) hx hb dX3_readAtom_49 (by decide) ?_
        refine lv_goto (tgt := 54) hx hb dX3_readAtom_50 (by decide) ?_
        exact hJ40 1 x43 x44 H locs ls (by first | omega | decide) (by first | omega | decide) hP hD hS (lv_sub hl [0, 1, 2] rfl)
def q_X3_readTerm_5 : List Cond := .code yX3_readTerm cX3_readTerm 4 (some .boolean) :: (([.code yX3_readAtom cX3_readAtom 4 (some .boolean), .fieldLink RX3 19 "LeftArguments$LawReader" "tape" "LLeftArguments$Tape;", .code yX10_next cX10_next 1 (some .int), .fieldLink RX10 19 "LeftArguments$Tape" "at" "I", .fieldLink RX10 15 "LeftArguments$Tape" "used" "I", .fieldLink RX10 9 "LeftArguments$Tape" "bytes" "[I", .initialized RX10, .instanceMethod yX10_next, .selects RX10 yX10_next yX10_next, .methodLink RX3 48 yX10_next, .code yX10_isDigit cX10_isDigit 1 (some .boolean), .static yX10_isDigit, .methodLink RX3 92 yX10_isDigit, .code yX10_step cX10_step 1 none, .instanceMethod yX10_step, .selects RX10 yX10_step yX10_step, .methodLink RX3 77 yX10_step, .code yX3_write cX3_write 3 none, .fieldLink RX3 15 "LeftArguments$LawReader" "used" "I", .fieldLink RX3 11 "LeftArguments$LawReader" "code" "[I", .initialized RX3, .instanceMethod yX3_write, .selects RX3 yX3_write yX3_write, .methodLink RX3 66 yX3_write, .code yX10_wrongHere cX10_wrongHere 1 (some .boolean), .fieldLink RX10 22 "LeftArguments$Tape" "wrongAt" "I", .instanceMethod yX10_wrongHere, .selects RX10 yX10_wrongHere yX10_wrongHere, .methodLink RX3 83 yX10_wrongHere, .code yJ0_indexOf_0f7a4 cJ0_indexOf_0f7a4 2 (some .int), .code yJ0_indexOf_7cf53 cJ0_indexOf_7cf53 3 (some .int), .code yJ0_isLatin1_aae02 cJ0_isLatin1_aae02 1 (some .boolean), .fieldLink RJ0 38 "java/lang/String" "COMPACT_STRINGS" "Z", .fieldLink RJ0 15 "java/lang/String" "coder" "B", .initialized RJ0, .instanceMethod yJ0_isLatin1_aae02, .selects RJ0 yJ0_isLatin1_aae02 yJ0_isLatin1_aae02, .methodLink RJ0 492 yJ0_isLatin1_aae02, .fieldLink RJ0 9 "java/lang/String" "value" "[B", .code yJ0_length_8abf5 cJ0_length_8abf5 1 (some .int), .code yJ0_coder_7d493 cJ0_coder_7d493 1 (some .byte), .instanceMethod yJ0_coder_7d493, .selects RJ0 yJ0_coder_7d493 yJ0_coder_7d493, .methodLink RJ0 335 yJ0_coder_7d493, .instanceMethod yJ0_length_8abf5, .selects RJ0 yJ0_length_8abf5 yJ0_length_8abf5, .methodLink RJ0 505 yJ0_length_8abf5, .code yJ1_indexOf_4cfef cJ1_indexOf_4cfef 4 (some .int), .code yJ1_canEncode_9a6ad cJ1_canEncode_9a6ad 1 (some .boolean), .initialized RJ1, .static yJ1_canEncode_9a6ad, .methodLink RJ1 88 yJ1_canEncode_9a6ad, .methodLink RJ1 92 Lib.Math.max.name, .static Lib.Math.max.name, .initialized "java/lang/Math", .code Lib.Math.max.name Lib.Math.max.code 2 (some .int), .methodLink RJ1 38 Lib.Math.min.name, .static Lib.Math.min.name, .code Lib.Math.min.name Lib.Math.min.code 2 (some .int), .code yJ1_indexOfChar_4cfef cJ1_indexOfChar_4cfef 6 (some .int), .static yJ1_indexOfChar_4cfef, .methodLink RJ1 95 yJ1_indexOfChar_4cfef, .static yJ1_indexOf_4cfef, .methodLink RJ0 637 yJ1_indexOf_4cfef, .instanceMethod yJ0_indexOf_7cf53, .selects RJ0 yJ0_indexOf_7cf53 yJ0_indexOf_7cf53, .methodLink RJ0 633 yJ0_indexOf_7cf53, .instanceMethod yJ0_indexOf_0f7a4, .selects RJ0 yJ0_indexOf_0f7a4 yJ0_indexOf_0f7a4, .methodLink RX3 103 yJ0_indexOf_0f7a4, .code yX10_takeNumber cX10_takeNumber 3 (some .boolean), .methodLink RX10 37 yX10_next, .methodLink RX10 45 yX10_isDigit, .fieldLink RX10 25 "LeftArguments$Tape" "number" "I", .code yX10_sign cX10_sign 1 (some .int), .instanceMethod yX10_sign, .selects RX10 yX10_sign yX10_sign, .methodLink RX10 49 yX10_sign, .methodLink RX10 41 yX10_wrongHere, .instanceMethod yX10_takeNumber, .selects RX10 yX10_takeNumber yX10_takeNumber, .methodLink RX3 95 yX10_takeNumber, .code yX10_number cX10_number 1 (some .int), .instanceMethod yX10_number, .selects RX10 yX10_number yX10_number, .methodLink RX3 98 yX10_number, .code yX3_readSum cX3_readSum 4 (some .boolean), .code yX3_readTerm cX3_readTerm 4 (some .boolean), .instanceMethod yX3_readAtom, .selects RX3 yX3_readAtom yX3_readAtom, .methodLink RX3 89 yX3_readAtom, .instanceMethod yX3_readTerm, .selects RX3 yX3_readTerm yX3_readTerm, .methodLink RX3 86 yX3_readTerm, .instanceMethod yX3_readSum, .selects RX3 yX3_readSum yX3_readSum, .methodLink RX3 59 yX3_readSum, .code yX10_take cX10_take 2 (some .boolean), .instanceMethod yX10_take, .selects RX10 yX10_take yX10_take, .methodLink RX3 51 yX10_take] : List Cond) ++ wsX30 ++ wsX100)
set_option maxRecDepth 20000 in
theorem g_X3_readTerm_5_0 : GoodIn q_X3_readTerm_5 (wsV RX3 89 RX3 yX3_readAtom q_X3_readAtom_5) := goodIn_app (goodIn_r _ [91, 89, 90, 21] rfl (by decide +kernel)) (goodIn_ca (goodIn_ca (goodIn_r (.code yX3_readAtom cX3_readAtom 4 (some .boolean) :: [.fieldLink RX3 19 "LeftArguments$LawReader" "tape" "LLeftArguments$Tape;", .code yX10_next cX10_next 1 (some .int), .fieldLink RX10 19 "LeftArguments$Tape" "at" "I", .fieldLink RX10 15 "LeftArguments$Tape" "used" "I", .fieldLink RX10 9 "LeftArguments$Tape" "bytes" "[I", .initialized RX10, .instanceMethod yX10_next, .selects RX10 yX10_next yX10_next, .methodLink RX3 48 yX10_next, .code yX10_isDigit cX10_isDigit 1 (some .boolean), .static yX10_isDigit, .methodLink RX3 92 yX10_isDigit, .code yX10_step cX10_step 1 none, .instanceMethod yX10_step, .selects RX10 yX10_step yX10_step, .methodLink RX3 77 yX10_step, .code yX3_write cX3_write 3 none, .fieldLink RX3 15 "LeftArguments$LawReader" "used" "I", .fieldLink RX3 11 "LeftArguments$LawReader" "code" "[I", .initialized RX3, .instanceMethod yX3_write, .selects RX3 yX3_write yX3_write, .methodLink RX3 66 yX3_write, .code yX10_wrongHere cX10_wrongHere 1 (some .boolean), .fieldLink RX10 22 "LeftArguments$Tape" "wrongAt" "I", .instanceMethod yX10_wrongHere, .selects RX10 yX10_wrongHere yX10_wrongHere, .methodLink RX3 83 yX10_wrongHere, .code yJ0_indexOf_0f7a4 cJ0_indexOf_0f7a4 2 (some .int), .code yJ0_indexOf_7cf53 cJ0_indexOf_7cf53 3 (some .int), .code yJ0_isLatin1_aae02 cJ0_isLatin1_aae02 1 (some .boolean), .fieldLink RJ0 38 "java/lang/String" "COMPACT_STRINGS" "Z", .fieldLink RJ0 15 "java/lang/String" "coder" "B", .initialized RJ0, .instanceMethod yJ0_isLatin1_aae02, .selects RJ0 yJ0_isLatin1_aae02 yJ0_isLatin1_aae02, .methodLink RJ0 492 yJ0_isLatin1_aae02, .fieldLink RJ0 9 "java/lang/String" "value" "[B", .code yJ0_length_8abf5 cJ0_length_8abf5 1 (some .int), .code yJ0_coder_7d493 cJ0_coder_7d493 1 (some .byte), .instanceMethod yJ0_coder_7d493, .selects RJ0 yJ0_coder_7d493 yJ0_coder_7d493, .methodLink RJ0 335 yJ0_coder_7d493, .instanceMethod yJ0_length_8abf5, .selects RJ0 yJ0_length_8abf5 yJ0_length_8abf5, .methodLink RJ0 505 yJ0_length_8abf5, .code yJ1_indexOf_4cfef cJ1_indexOf_4cfef 4 (some .int), .code yJ1_canEncode_9a6ad cJ1_canEncode_9a6ad 1 (some .boolean), .initialized RJ1, .static yJ1_canEncode_9a6ad, .methodLink RJ1 88 yJ1_canEncode_9a6ad, .methodLink RJ1 92 Lib.Math.max.name, .static Lib.Math.max.name, .initialized "java/lang/Math", .code Lib.Math.max.name Lib.Math.max.code 2 (some .int), .methodLink RJ1 38 Lib.Math.min.name, .static Lib.Math.min.name, .code Lib.Math.min.name Lib.Math.min.code 2 (some .int), .code yJ1_indexOfChar_4cfef cJ1_indexOfChar_4cfef 6 (some .int), .static yJ1_indexOfChar_4cfef, .methodLink RJ1 95 yJ1_indexOfChar_4cfef, .static yJ1_indexOf_4cfef, .methodLink RJ0 637 yJ1_indexOf_4cfef, .instanceMethod yJ0_indexOf_7cf53, .selects RJ0 yJ0_indexOf_7cf53 yJ0_indexOf_7cf53, .methodLink RJ0 633 yJ0_indexOf_7cf53, .instanceMethod yJ0_indexOf_0f7a4, .selects RJ0 yJ0_indexOf_0f7a4 yJ0_indexOf_0f7a4, .methodLink RX3 103 yJ0_indexOf_0f7a4, .code yX10_takeNumber cX10_takeNumber 3 (some .boolean), .methodLink RX10 37 yX10_next, .methodLink RX10 45 yX10_isDigit, .fieldLink RX10 25 "LeftArguments$Tape" "number" "I", .code yX10_sign cX10_sign 1 (some .int), .instanceMethod yX10_sign, .selects RX10 yX10_sign yX10_sign, .methodLink RX10 49 yX10_sign, .methodLink RX10 41 yX10_wrongHere, .instanceMethod yX10_takeNumber, .selects RX10 yX10_takeNumber yX10_takeNumber, .methodLink RX3 95 yX10_takeNumber, .code yX10_number cX10_number 1 (some .int), .instanceMethod yX10_number, .selects RX10 yX10_number yX10_number, .methodLink RX3 98 yX10_number, .code yX3_readSum cX3_readSum 4 (some .boolean), .code yX3_readTerm cX3_readTerm 4 (some .boolean), .code yX3_readAtom cX3_readAtom 4 (some .boolean), .instanceMethod yX3_readAtom, .selects RX3 yX3_readAtom yX3_readAtom, .methodLink RX3 89 yX3_readAtom, .instanceMethod yX3_readTerm, .selects RX3 yX3_readTerm yX3_readTerm, .methodLink RX3 86 yX3_readTerm, .instanceMethod yX3_readSum, .selects RX3 yX3_readSum yX3_readSum, .methodLink RX3 59 yX3_readSum, .code yX10_take cX10_take 2 (some .boolean), .instanceMethod yX10_take, .selects RX10 yX10_take yX10_take, .methodLink RX3 51 yX10_take]) [1, 2, 3, 4, 5, 6, 7, 8, 9, 10, 11, 12, 13, 14, 15, 16, 17, 18, 19, 20, 21, 22, 23, 24, 25, 26, 27, 28, 29, 30, 31, 32, 33, 34, 35, 36, 37, 38, 39, 40, 41, 42, 43, 44, 45, 46, 47, 48, 49, 50, 51, 52, 53, 54, 55, 56, 57, 58, 59, 60, 61, 62, 63, 64, 65, 66, 67, 68, 69, 70, 71, 72, 73, 74, 75, 76, 77, 78, 79, 80, 81, 82, 83, 84, 85, 86, 87, 88, 1, 89, 90, 91, 92, 93, 94, 95, 96, 97, 98, 99, 100, 101] rfl (by decide +kernel)) (goodIn_sub (fun _ h => List.mem_cons_of_mem _ (List.mem_append_left _ (List.mem_append_right _ h))) gwX3)) (goodIn_sub (fun _ h => List.mem_cons_of_mem _ (List.mem_append_right _ h)) gwX10))
set_option maxRecDepth 20000 in
theorem g_X3_readTerm_5_1 : GoodIn q_X3_readTerm_5 (wsV RX3 48 RX10 yX10_next q_X10_next) := goodIn_app (goodIn_r _ [10, 8, 9, 7] rfl (by decide +kernel)) (goodIn_ca (goodIn_r (.code yX10_next cX10_next 1 (some .int) :: [.fieldLink RX10 19 "LeftArguments$Tape" "at" "I", .fieldLink RX10 15 "LeftArguments$Tape" "used" "I", .fieldLink RX10 9 "LeftArguments$Tape" "bytes" "[I"]) [3, 4, 5, 6] rfl (by decide +kernel)) (goodIn_sub (fun _ h => List.mem_cons_of_mem _ (List.mem_append_right _ h)) gwX10))
set_option maxRecDepth 20000 in
theorem g_X3_readTerm_5_2 : GoodIn q_X3_readTerm_5 (wsV RX3 77 RX10 yX10_step q_X10_step) := goodIn_app (goodIn_r _ [17, 15, 16, 7] rfl (by decide +kernel)) (goodIn_ca (goodIn_r (.code yX10_step cX10_step 1 none :: [.fieldLink RX10 19 "LeftArguments$Tape" "at" "I"]) [14, 4] rfl (by decide +kernel)) (goodIn_sub (fun _ h => List.mem_cons_of_mem _ (List.mem_append_right _ h)) gwX10))
set_option maxRecDepth 20000 in
theorem g_X3_readTerm_5_4 : GoodIn q_X3_readTerm_5 (wsV RX3 66 RX3 yX3_write q_X3_write) := goodIn_app (goodIn_r _ [24, 22, 23, 21] rfl (by decide +kernel)) (goodIn_ca (goodIn_r (.code yX3_write cX3_write 3 none :: [.fieldLink RX3 15 "LeftArguments$LawReader" "used" "I", .fieldLink RX3 11 "LeftArguments$LawReader" "code" "[I"]) [18, 19, 20] rfl (by decide +kernel)) (goodIn_sub (fun _ h => List.mem_cons_of_mem _ (List.mem_append_left _ (List.mem_append_right _ h))) gwX3))
set_option maxHeartbeats 4000000 in
set_option maxRecDepth 100000 in
theorem k_X3_readTerm_5 (l : Launch) (dC : Nat → ClassId) (dI : Nat → Nat → Nat) (adK : Nat → Nat) (adV : Nat → Nat) (h0 : Nat) (h1 : Nat) (h2 : Nat) (h3 : Nat) (v0 : Int32) (v1 : Int32) (v2 : Int32) (v3 : Int32) (v4 : Int32) (g0 : ClassId) (f5 : Nat → Int32) (g1 : ClassId) (f6 : Nat → Int32) (i_v0 : 0 ≤ v0.toInt ∧ v0.toInt ≤ 256) (i_v1 : 0 ≤ v1.toInt ∧ v1.toInt ≤ 240) (sz : Nat) : Met l yX3_readTerm q_X3_readTerm_5 ({ frames := 20, cells := 0, slots := 0, locals := 459 }) (va_Pc [.ref h0, .int 1] (fun U => U.heap.size = sz ∧ va_P (dC, dI) vwCl (wd_1ad0248d h0 h1 h3 v0 h1 h2 v1 v2 v3 v4 h2 g0 f5 h3 g1 f6) U.heap ∧ va_K (dC, dI) vwCl [(g0, .int), (g1, .int)] U ∧ va_D (fun _ => True) (wd_1ad0248d h0 h1 h3 v0 h1 h2 v1 v2 v3 v4 h2 g0 f5 h3 g1 f6) ∧ vk_R RX3 101 "zaondt" (adK 2) U ∧ va_Z "java/lang/String" "COMPACT_STRINGS" "Z" (.int 1) (va_A (wd_1ad0248d h0 h1 h3 v0 h1 h2 v1 v2 v3 v4 h2 g0 f5 h3 g1 f6) sz) U U.heap ∧ vk_S 3 pv_len3 pv_byt3 adK adV (va_A (wd_1ad0248d h0 h1 h3 v0 h1 h2 v1 v2 v3 v4 h2 g0 f5 h3 g1 f6) sz) U U.heap)) (va_Qi (fun (r : Int32) (_ : Unit) => 0 ≤ r.toInt ∧ r.toInt ≤ 1) (fun (_ : Unit) (t : State) => ∃ (o_h0_2 : Int32) (o_h1_2 : Int32) (o_h1_3 : Int32) (o_h1_4 : Int32) (o_h3 : Nat → Int32), 0 ≤ o_h0_2.toInt ∧ o_h0_2.toInt ≤ 256 ∧ va_P (dC, dI) vwCl (wd_1ad0248d h0 h1 h3 o_h0_2 h1 h2 v1 o_h1_2 o_h1_3 o_h1_4 h2 g0 f5 h3 g1 o_h3) t.heap ∧ va_K (dC, dI) vwCl [] t ∧ va_D (va_A (wd_1ad0248d h0 h1 h3 v0 h1 h2 v1 v2 v3 v4 h2 g0 f5 h3 g1 f6) sz) (wd_1ad0248d h0 h1 h3 o_h0_2 h1 h2 v1 o_h1_2 o_h1_3 o_h1_4 h2 g0 f5 h3 g1 o_h3)) (va_A (wd_1ad0248d h0 h1 h3 v0 h1 h2 v1 v2 v3 v4 h2 g0 f5 h3 g1 f6) sz)) 0 0 (va_A (wd_1ad0248d h0 h1 h3 v0 h1 h2 v1 v2 v3 v4 h2 g0 f5 h3 g1 f6) sz) := by
  refine Met.ofW (cc := cX3_readTerm) (maxL := 4) (ret := (some .boolean)) (by decide) rfl ?_
  intro p e s m args below meth c s₁ B hml hv
  obtain ⟨i_v0a, i_v0b⟩ := i_v0
  obtain ⟨i_v1a, i_v1b⟩ := i_v1
  obtain ⟨rfl, hsz, hP, hK, hD0, h_vr_2, h_st_CS, h_st_S⟩ := hv
  have hx := B.exec
  have hb := B.bytes
  have hr := B.returns
  have hts := atoms_spec (ws := q_X3_readTerm_5) B.pre
  have hown : s.vm.findClass RX3 = some m.cls := findClass_of_methodNamed B.named
  have hlocks := B.notSynchronized
  subst hsz
  have hD := hD0.self (sz := s.heap.size)
  generalize hAe : va_A (wd_1ad0248d h0 h1 h3 v0 h1 h2 v1 v2 v3 v4 h2 g0 f5 h3 g1 f6) s.heap.size = A at hD h_st_CS h_st_S ⊢
  have hA : ∀ q : Nat, s.heap.size ≤ q → A q := fun q h => by rw [← hAe]; exact Or.inr h
  have hS : va_S A s.heap s.heap [] := va_S.rf
  generalize hQ : (MQ below _ _ s 0 0 A) = Q
  have hl := lv_entry ([.ref h0, .int 1]) (n := 4) (Nat.le_of_ble_eq_true rfl)
  rw [lg_entry_eq]
  generalize (lg_sl ([.ref h0, .int 1]) ++ List.replicate (4 - (lg_sl ([.ref h0, .int 1])).length) Slot.unset).toArray = ls at hl ⊢
  have hl : lv_has ls 4 [(0, .ref h0), (1, .int 1)] := hl
  obtain ⟨H, hH⟩ : ∃ H : Heap, H = s.heap := ⟨_, rfl⟩
  obtain ⟨locs, hlocs⟩ : ∃ y : List Loc, y = [] := ⟨_, rfl⟩
  have hS : va_S A s.heap H locs := by rw [hH, hlocs]; exact va_S.rf
  have hP : va_P (dC, dI) vwCl (wd_1ad0248d h0 h1 h3 v0 h1 h2 v1 v2 v3 v4 h2 g0 f5 h3 g1 f6) H := by rw [hH]; exact hP
  rw [← hH, ← hlocs]
  refine lv_aload_n hx hb dX3_readTerm_0 rfl (lv_at hl 0 rfl) ?_
  refine lv_iload_n hx hb dX3_readTerm_1 rfl (lv_at hl 1 rfl) ?_
  have hPc := hP.sub (ws' := (wd_1ad0248d h0 h1 h3 v0 h1 h2 v1 v2 v3 v4 h2 g0 f5 h3 g1 f6)) [0, 1, 2, 3] rfl
  have hDc := hD.sub (ws' := (wd_1ad0248d h0 h1 h3 v0 h1 h2 v1 v2 v3 v4 h2 g0 f5 h3 g1 f6)) [0, 1, 2, 3] (by decide) rfl
  have hKc := hK.sub (tys' := [(g0, .int), (g1, .int)]) [0, 1] rfl
  have hFc := va_free (wc := (wd_1ad0248d h0 h1 h3 v0 h1 h2 v1 v2 v3 v4 h2 g0 f5 h3 g1 f6)) hD hS hA [0, 1, 2, 3] rfl
  refine va_calli (va_runV (As := [.int 1]) (rest := []) ⟨hx, hb, hml, hown, hts⟩ (k_X3_readAtom_5 l dC dI adK adV h0 h1 h2 h3 v0 v1 v2 v3 v4 g0 f5 g1 f6 ⟨by first | omega | decide, by first | omega | decide⟩ ⟨by first | omega | decide, by first | omega | decide⟩ H.size) (cwV 1 hts g_X3_readTerm_5_0 rfl rfl rfl (by decide +kernel) ⟨Nat.le_of_ble_eq_true rfl, Nat.le_of_ble_eq_true rfl⟩) ⟨fun a U g mk q => by obtain ⟨q0, q1, qP, qK, qD, n0, n1, n2⟩ := q; exact ⟨q0, q1, qP, va_K.moved (u := U) (U := U.calling g mk a) (Vm.Alike.refl U.vm) qK, qD, vk_R.same rfl n0, va_Z.moved (Vm.Alike.refl _) n1, vk_S.moved (Vm.Alike.refl _) n2⟩, va_recv hKc hPc (ci := 3) (q0 := 0) rfl rfl, fun U hU hW => ⟨rfl, by rw [hU], by rw [hU]; exact hPc, va_K.moved hW.alike hKc, hDc.weaken (fun _ _ _ _ => trivial), vk_R.warm hW h_vr_2, (by rw [hU]; exact (va_Z.moved hW.alike (va_Z.kept h_st_CS hS.2.1)).narrow hFc), (by rw [hU]; exact (vk_S.moved hW.alike (vk_S.kept h_st_S hS.2.1)).narrow hFc)⟩⟩ rfl rfl hl.1 rfl (lv_room (Nat.le_of_ble_eq_true rfl)) dX3_readTerm_2 ⟨Nat.le_of_ble_eq_true rfl, Nat.le_of_ble_eq_true rfl⟩) hS (fun q _ h => hFc q h) hFc (fun ra1 u t H1 locs ht hvm hwra1 hB hz1 hk1 hS => ?_)
  obtain ⟨x2, x3, x4, x5, fn6, oa_x2, ob_x2, hP1, hK1, hD1⟩ := hB
  rw [ht] at hP1
  obtain ⟨hP, hD⟩ := va_join (wr := []) (w1 := (wd_1ad0248d h0 h1 h3 x2 h1 h2 v1 x3 x4 x5 h2 g0 f5 h3 g1 fn6)) hP hD [0, 1, 2, 3] [] rfl rfl (by decide) (by decide) hk1 hFc hP1 hD1
  generalize H1 = H at hP hS ⊢
  have hP : va_P (dC, dI) vwCl (wd_1ad0248d h0 h1 h3 x2 h1 h2 v1 x3 x4 x5 h2 g0 f5 h3 g1 fn6) H := hP
  have hD : va_D A (wd_1ad0248d h0 h1 h3 x2 h1 h2 v1 x3 x4 x5 h2 g0 f5 h3 g1 fn6) := hD
  obtain ⟨wa_ra1, wb_ra1⟩ := hwra1
  have wa_ra1 : 0 ≤ ra1.toInt := wa_ra1
  have wb_ra1 : ra1.toInt ≤ 1 := wb_ra1
  refine lv_if_ne (tgt := 10) hx hb dX3_readTerm_5 (by decide) (fun c7 => ?_) (fun c7 => ?_)
  · skip
    have fc7 : ¬ (ra1.toInt = 0) := fun h9 => c7 (Int32.toInt_inj.mp h9)
    refine lv_iconst (v := 0) hx hb dX3_readTerm_10 (by decide) ?_
    refine lv_istore_n (lv' := [(2, .int 0), (0, .ref h0), (1, .int 1)]) hx hb dX3_readTerm_11 rfl hl (by decide) rfl (fun ls hl => ?_)
    have hL122 : ∀ (n9 : Nat), ∀ (x110 : Int32) (x111 : Int32) (x112 : Int32) (x113 : Int32) (x114 : Int32) (fn115 : Nat → Int32) (H : Heap) (locs : List Loc) (ls : Array Slot), 0 ≤ x110.toInt → x110.toInt ≤ 240 → 0 ≤ x111.toInt → x111.toInt ≤ 256 → (240 - x110.toInt).toNat < n9 → va_P (dC, dI) vwCl (wd_1ad0248d h0 h1 h3 x111 h1 h2 v1 x112 x113 x114 h2 g0 f5 h3 g1 fn115) H → va_D A (wd_1ad0248d h0 h1 h3 x111 h1 h2 v1 x112 x113 x114 h2 g0 f5 h3 g1 fn115) → va_S A s.heap H locs → lv_has ls 4 [(2, .int x110), (0, .ref h0), (1, .int 1)] → W p l e ({ frames := 20, cells := 0, slots := 0, locals := 459 }) s m ([.ref h0, .int 1] : List Value).toArray below meth c H locs 0 0 Q (F0 m 12 ls []) := by
      intro n9
      induction n9 with
      | zero => intro x110 x111 x112 x113 x114 fn115 H locs ls qa_x110 qb_x110 qa_x111 qb_x111 hm9 hP hD hS hl; exact absurd hm9 (Nat.not_lt_zero _)
      | succ n9 ih_hL122 =>
        intro x110 x111 x112 x113 x114 fn115 H locs ls qa_x110 qb_x110 qa_x111 qb_x111 hm9 hP hD hS hl
        refine lv_iload_n hx hb dX3_readTerm_12 rfl (lv_at hl 0 rfl) ?_
        refine lv_sipush (v := 240) hx hb dX3_readTerm_13 (by decide) ?_
        refine lv_icmp_ge (tgt := 80) hx hb dX3_readTerm_16 (by decide) (fun c123 => ?_) (fun c123 => ?_)
        · skip
          have fc123 : 240 ≤ x110.toInt := Int32.le_iff_toInt_le.mp c123
          refine lv_iconst (v := 1) hx hb dX3_readTerm_80 (by decide) ?_
          subst hQ
          have hP9 := hP.sub (ws' := (wd_1ad0248d h0 h1 h3 x111 h1 h2 v1 x112 x113 x114 h2 g0 f5 h3 g1 fn115)) [0, 1, 2, 3] rfl
          have hD9 := hD.sub (ws' := (wd_1ad0248d h0 h1 h3 x111 h1 h2 v1 x112 x113 x114 h2 g0 f5 h3 g1 fn115)) [0, 1, 2, 3] (by decide) rfl
          have hK9 := hK.sub (tys' := []) [] rfl
          exact W.zret (v := 1) hx hb hr rfl (fun t ht hW => ⟨⟨1, (), rfl, ⟨by first | omega | decide, by first | omega | decide⟩, x111, x112, x113, x114, fn115, by first | omega | decide, by first | omega | decide, by rw [ht]; exact hP9, va_K.moved hW.alike hK9, hD9⟩, hS.F ht⟩) hS.2.2 dX3_readTerm_81
        · skip
          have fc123 : ¬ (240 ≤ x110.toInt) := fun h9 => c123 (Int32.le_iff_toInt_le.mpr h9)
          refine lv_aload_n hx hb dX3_readTerm_19 rfl (lv_at hl 1 rfl) ?_
          refine va_get (D := (dC, dI)) (ci := 3) (v := .ref h1) (C := RX3) (T := TX3) (N := 3) hx hb hts (fun _ h => List.mem_cons_of_mem _ (List.mem_append_left _ (List.mem_append_right _ h))) hown hK hP 0 rfl rfl 0 (by decide) (hts (.fieldLink RX3 19 "LeftArguments$LawReader" "tape" "LLeftArguments$Tape;") (List.mem_cons_of_mem _ (List.mem_append_left _ (List.mem_append_left _ (List.mem_of_getElem? (i := 1) rfl))))) (fun _ h9 => h9) rfl dX3_readTerm_20 ?_
          have hPc := hP.sub (ws' := (wd_82cdd16b h1 h2 v1 x112 x113 x114 h2 g0 f5)) [1, 2] rfl
          have hDc := hD.sub (ws' := (wd_82cdd16b h1 h2 v1 x112 x113 x114 h2 g0 f5)) [1, 2] (by decide) rfl
          have hKc := hK.sub (tys' := [(g0, .int)]) [0] rfl
          have hFc := va_free (wc := (wd_82cdd16b h1 h2 v1 x112 x113 x114 h2 g0 f5)) hD hS hA [1, 2] rfl
          refine va_calli (va_runV (As := []) (rest := []) ⟨hx, hb, hml, hown, hts⟩ (k_X10_next l dC dI h1 h2 v1 x112 x113 x114 g0 f5 ⟨by first | omega | decide, by first | omega | decide⟩ H.size) (cwV 0 hts g_X3_readTerm_5_1 rfl rfl rfl (by decide +kernel) ⟨Nat.le_of_ble_eq_true rfl, Nat.le_of_ble_eq_true rfl⟩) ⟨fun a U g mk q => by obtain ⟨q0, q1, qP, qK, qD⟩ := q; exact ⟨q0, q1, qP, va_K.moved (u := U) (U := U.calling g mk a) (Vm.Alike.refl U.vm) qK, qD⟩, va_recv hKc hPc (ci := 10) (q0 := 0) rfl rfl, fun U hU hW => ⟨rfl, by rw [hU], by rw [hU]; exact hPc, va_K.moved hW.alike hKc, hDc.weaken (fun _ _ _ _ => trivial)⟩⟩ rfl rfl hl.1 rfl (lv_room (Nat.le_of_ble_eq_true rfl)) dX3_readTerm_23 ⟨Nat.le_of_ble_eq_true rfl, Nat.le_of_ble_eq_true rfl⟩) hS (fun q _ h => hFc q h) hFc (fun ra124 u t H1 locs ht hvm hwra124 hB hz1 hk1 hS => ?_)
          obtain ⟨x125, hP1, hK1, hD1⟩ := hB
          rw [ht] at hP1
          obtain ⟨hP, hD⟩ := va_join (wr := (wd_b958b9da h0 h1 h3 x111 h3 g1 fn115)) (w1 := (wd_82cdd16b h1 h2 v1 x125 x113 x114 h2 g0 f5)) hP hD [1, 2] [0, 3] rfl rfl (by decide) (by decide) hk1 hFc hP1 hD1
          generalize H1 = H at hP hS ⊢
          have hP := hP.sub (ws' := (wd_1ad0248d h0 h1 h3 x111 h1 h2 v1 x125 x113 x114 h2 g0 f5 h3 g1 fn115)) [0, 2, 3, 1] rfl
          have hD := hD.sub (ws' := (wd_1ad0248d h0 h1 h3 x111 h1 h2 v1 x125 x113 x114 h2 g0 f5 h3 g1 fn115)) [0, 2, 3, 1] (by decide) rfl
          have hP : va_P (dC, dI) vwCl (wd_1ad0248d h0 h1 h3 x111 h1 h2 v1 x125 x113 x114 h2 g0 f5 h3 g1 fn115) H := hP
          have hD : va_D A (wd_1ad0248d h0 h1 h3 x111 h1 h2 v1 x125 x113 x114 h2 g0 f5 h3 g1 fn115) := hD
          refine lv_istore_n (lv' := [(3, .int ra124), (2, .int x110), (0, .ref h0), (1, .int 1)]) hx hb dX3_readTerm_26 rfl hl (by decide) rfl (fun ls hl => ?_)
          refine lv_iload_n hx hb dX3_readTerm_27 rfl (lv_at hl 0 rfl) ?_
          refine lv_bipush (v := 42) hx hb dX3_readTerm_28 (by decide) ?_
          refine lv_icmp_eq (tgt := 41) hx hb dX3_readTerm_30 (by decide) (fun c126 => ?_) (fun c126 => ?_)
          · skip
            have fc126 : ra124.toInt = 42 := congrArg Int32.toInt c126
            refine lv_aload_n hx hb dX3_readTerm_41 rfl (lv_at hl 2 rfl) ?_
            refine va_get (D := (dC, dI)) (ci := 3) (v := .ref h1) (C := RX3) (T := TX3) (N := 3) hx hb hts (fun _ h => List.mem_cons_of_mem _ (List.mem_append_left _ (List.mem_append_right _ h))) hown hK hP 0 rfl rfl 0 (by decide) (hts (.fieldLink RX3 19 "LeftArguments$LawReader" "tape" "LLeftArguments$Tape;") (List.mem_cons_of_mem _ (List.mem_append_left _ (List.mem_append_left _ (List.mem_of_getElem? (i := 1) rfl))))) (fun _ h9 => h9) rfl dX3_readTerm_42 ?_
            have hPc := hP.sub (ws' := (wd_09b0abee h1 h2 v1 x125 x113 x114)) [1] rfl
            have hDc := hD.sub (ws' := (wd_09b0abee h1 h2 v1 x125 x113 x114)) [1] (by decide) rfl
            have hKc := hK.sub (tys' := []) [] rfl
            have hFc := va_free (wc := (wd_09b0abee h1 h2 v1 x125 x113 x114)) hD hS hA [1] rfl
            refine va_callv (va_runV (As := []) (rest := []) ⟨hx, hb, hml, hown, hts⟩ (k_X10_step l dC dI h1 h2 v1 x125 x113 x114 ⟨by first | omega | decide, by first | omega | decide⟩ H.size) (cwV 0 hts g_X3_readTerm_5_2 rfl rfl rfl (by decide +kernel) ⟨Nat.le_of_ble_eq_true rfl, Nat.le_of_ble_eq_true rfl⟩) ⟨fun a U g mk q => by obtain ⟨q0, q1, qP, qK, qD⟩ := q; exact ⟨q0, q1, qP, va_K.moved (u := U) (U := U.calling g mk a) (Vm.Alike.refl U.vm) qK, qD⟩, va_recv hKc hPc (ci := 10) (q0 := 0) rfl rfl, fun U hU hW => ⟨rfl, by rw [hU], by rw [hU]; exact hPc, va_K.moved hW.alike hKc, hDc.weaken (fun _ _ _ _ => trivial)⟩⟩ rfl rfl hl.1 rfl (lv_room (Nat.le_of_ble_eq_true rfl)) dX3_readTerm_45 ⟨Nat.le_of_ble_eq_true rfl, Nat.le_of_ble_eq_true rfl⟩) hS (fun q _ h => hFc q h) hFc (fun u t H1 locs ht hvm hwra127 hB hz1 hk1 hS => ?_)
            obtain ⟨x128, hP1, hK1, hD1⟩ := hB
            rw [ht] at hP1
            obtain ⟨hP, hD⟩ := va_join (wr := (wd_6b0d8e05 h0 h1 h3 x111 h2 g0 f5 h3 g1 fn115)) (w1 := (wd_09b0abee h1 h2 v1 x128 x113 x114)) hP hD [1] [0, 2, 3] rfl rfl (by decide) (by decide) hk1 hFc hP1 hD1
            generalize H1 = H at hP hS ⊢
            have hP := hP.sub (ws' := (wd_1ad0248d h0 h1 h3 x111 h1 h2 v1 x128 x113 x114 h2 g0 f5 h3 g1 fn115)) [0, 3, 1, 2] rfl
            have hD := hD.sub (ws' := (wd_1ad0248d h0 h1 h3 x111 h1 h2 v1 x128 x113 x114 h2 g0 f5 h3 g1 fn115)) [0, 3, 1, 2] (by decide) rfl
            have hP : va_P (dC, dI) vwCl (wd_1ad0248d h0 h1 h3 x111 h1 h2 v1 x128 x113 x114 h2 g0 f5 h3 g1 fn115) H := hP
            have hD : va_D A (wd_1ad0248d h0 h1 h3 x111 h1 h2 v1 x128 x113 x114 h2 g0 f5 h3 g1 fn115) := hD
            refine lv_aload_n hx hb dX3_readTerm_48 rfl (lv_at hl 2 rfl) ?_
            refine lv_iload_n hx hb dX3_readTerm_49 rfl (lv_at hl 3 rfl) ?_
            have hPc := hP.sub (ws' := (wd_1ad0248d h0 h1 h3 x111 h1 h2 v1 x128 x113 x114 h2 g0 f5 h3 g1 fn115)) [0, 1, 2, 3] rfl
            have hDc := hD.sub (ws' := (wd_1ad0248d h0 h1 h3 x111 h1 h2 v1 x128 x113 x114 h2 g0 f5 h3 g1 fn115)) [0, 1, 2, 3] (by decide) rfl
            have hKc := hK.sub (tys' := [(g0, .int), (g1, .int)]) [0, 1] rfl
            have hFc := va_free (wc := (wd_1ad0248d h0 h1 h3 x111 h1 h2 v1 x128 x113 x114 h2 g0 f5 h3 g1 fn115)) hD hS hA [0, 1, 2, 3] rfl
            refine va_calli (va_runV (As := [.int 1]) (rest := []) ⟨hx, hb, hml, hown, hts⟩ (k_X3_readAtom_5 l dC dI adK adV h0 h1 h2 h3 x111 v1 x128 x113 x114 g0 f5 g1 fn115 ⟨by first | omega | decide, by first | omega | decide⟩ ⟨by first | omega | decide, by first | omega | decide⟩ H.size) (cwV 1 hts g_X3_readTerm_5_0 rfl rfl rfl (by decide +kernel) ⟨Nat.le_of_ble_eq_true rfl, Nat.le_of_ble_eq_true rfl⟩) ⟨fun a U g mk q => by obtain ⟨q0, q1, qP, qK, qD, n0, n1, n2⟩ := q; exact ⟨q0, q1, qP, va_K.moved (u := U) (U := U.calling g mk a) (Vm.Alike.refl U.vm) qK, qD, vk_R.same rfl n0, va_Z.moved (Vm.Alike.refl _) n1, vk_S.moved (Vm.Alike.refl _) n2⟩, va_recv hKc hPc (ci := 3) (q0 := 0) rfl rfl, fun U hU hW => ⟨rfl, by rw [hU], by rw [hU]; exact hPc, va_K.moved hW.alike hKc, hDc.weaken (fun _ _ _ _ => trivial), vk_R.warm hW h_vr_2, (by rw [hU]; exact (va_Z.moved hW.alike (va_Z.kept h_st_CS hS.2.1)).narrow hFc), (by rw [hU]; exact (vk_S.moved hW.alike (vk_S.kept h_st_S hS.2.1)).narrow hFc)⟩⟩ rfl rfl hl.1 rfl (lv_room (Nat.le_of_ble_eq_true rfl)) dX3_readTerm_50 ⟨Nat.le_of_ble_eq_true rfl, Nat.le_of_ble_eq_true rfl⟩) hS (fun q _ h => hFc q h) hFc (fun ra129 u t H1 locs ht hvm hwra129 hB hz1 hk1 hS => ?_)
            obtain ⟨x130, x131, x132, x133, fn134, oa_x130, ob_x130, hP1, hK1, hD1⟩ := hB
            rw [ht] at hP1
            obtain ⟨hP, hD⟩ := va_join (wr := []) (w1 := (wd_1ad0248d h0 h1 h3 x130 h1 h2 v1 x131 x132 x133 h2 g0 f5 h3 g1 fn134)) hP hD [0, 1, 2, 3] [] rfl rfl (by decide) (by decide) hk1 hFc hP1 hD1
            generalize H1 = H at hP hS ⊢
            have hP : va_P (dC, dI) vwCl (wd_1ad0248d h0 h1 h3 x130 h1 h2 v1 x131 x132 x133 h2 g0 f5 h3 g1 fn134) H := hP
            have hD : va_D A (wd_1ad0248d h0 h1 h3 x130 h1 h2 v1 x131 x132 x133 h2 g0 f5 h3 g1 fn134) := hD
            obtain ⟨wa_ra129, wb_ra129⟩ := hwra129
            have wa_ra129 : 0 ≤ ra129.toInt := wa_ra129
            have wb_ra129 : ra129.toInt ≤ 1 := wb_ra129
            refine lv_if_ne (tgt := 58) hx hb dX3_readTerm_53 (by decide) (fun c135 => ?_) (fun c135 => ?_)
            · skip
              have fc135 : ¬ (ra129.toInt = 0) := fun h9 => c135 (Int32.toInt_inj.mp h9)
              refine lv_aload_n hx hb dX3_readTerm_58 rfl (lv_at hl 2 rfl) ?_
              refine lv_iload_n hx hb dX3_readTerm_59 rfl (lv_at hl 0 rfl) ?_
              refine lv_bipush (v := 42) hx hb dX3_readTerm_60 (by decide) ?_
              refine lv_icmp_ne (tgt := 69) hx hb dX3_readTerm_62 (by decide) (fun c136 => by exfalso; have fc136 : ¬ (ra124.toInt = 42) := fun h9 => c136 (Int32.toInt_inj.mp h9); omega) (fun _ => ?_)
              refine lv_iconst (v := 4) hx hb dX3_readTerm_65 (by decide) ?_
              refine lv_goto (tgt := 70) hx hb dX3_readTerm_66 (by decide) ?_
              refine lv_iconst (v := 0) hx hb dX3_readTerm_70 (by decide) ?_
              have hPc := hP.sub (ws' := (wd_b958b9da h0 h1 h3 x130 h3 g1 fn134)) [0, 3] rfl
              have hDc := hD.sub (ws' := (wd_b958b9da h0 h1 h3 x130 h3 g1 fn134)) [0, 3] (by decide) rfl
              have hKc := hK.sub (tys' := [(g1, .int)]) [1] rfl
              have hFc := va_free (wc := (wd_b958b9da h0 h1 h3 x130 h3 g1 fn134)) hD hS hA [0, 3] rfl
              refine va_callv (va_runV (As := [.int 4, .int 0]) (rest := []) ⟨hx, hb, hml, hown, hts⟩ (k_X3_write l dC dI h0 h3 h1 x130 g1 fn134 4 0 ⟨by first | omega | decide, by first | omega | decide⟩ H.size) (cwV 2 hts g_X3_readTerm_5_4 rfl rfl rfl (by decide +kernel) ⟨Nat.le_of_ble_eq_true rfl, Nat.le_of_ble_eq_true rfl⟩) ⟨fun a U g mk q => by obtain ⟨q0, q1, qP, qK, qD⟩ := q; exact ⟨q0, q1, qP, va_K.moved (u := U) (U := U.calling g mk a) (Vm.Alike.refl U.vm) qK, qD⟩, va_recv hKc hPc (ci := 3) (q0 := 0) rfl rfl, fun U hU hW => ⟨rfl, by rw [hU], by rw [hU]; exact hPc, va_K.moved hW.alike hKc, hDc.weaken (fun _ _ _ _ => trivial)⟩⟩ rfl rfl hl.1 rfl (lv_room (Nat.le_of_ble_eq_true rfl)) dX3_readTerm_71 ⟨Nat.le_of_ble_eq_true rfl, Nat.le_of_ble_eq_true rfl⟩) hS (fun q _ h => hFc q h) hFc (fun u t H1 locs ht hvm hwra137 hB hz1 hk1 hS => ?_)
              obtain ⟨x138, fn139, oa_x138, ob_x138, hP1, hK1, hD1⟩ := hB
              rw [ht] at hP1
              obtain ⟨hP, hD⟩ := va_join (wr := (wd_82cdd16b h1 h2 v1 x131 x132 x133 h2 g0 f5)) (w1 := (wd_b958b9da h0 h1 h3 x138 h3 g1 fn139)) hP hD [0, 3] [1, 2] rfl rfl (by decide) (by decide) hk1 hFc hP1 hD1
              generalize H1 = H at hP hS ⊢
              have hP := hP.sub (ws' := (wd_1ad0248d h0 h1 h3 x138 h1 h2 v1 x131 x132 x133 h2 g0 f5 h3 g1 fn139)) [2, 0, 1, 3] rfl
              have hD := hD.sub (ws' := (wd_1ad0248d h0 h1 h3 x138 h1 h2 v1 x131 x132 x133 h2 g0 f5 h3 g1 fn139)) [2, 0, 1, 3] (by decide) rfl
              have hP : va_P (dC, dI) vwCl (wd_1ad0248d h0 h1 h3 x138 h1 h2 v1 x131 x132 x133 h2 g0 f5 h3 g1 fn139) H := hP
              have hD : va_D A (wd_1ad0248d h0 h1 h3 x138 h1 h2 v1 x131 x132 x133 h2 g0 f5 h3 g1 fn139) := hD
              obtain ⟨t140, et140⟩ : ∃ y : Int32, y = x110 + 1 := ⟨_, rfl⟩
              have gt140 : t140.toInt = x110.toInt + (1) := pv_add (a := x110.toInt) (b := (1)) et140 rfl (by decide) (by omega) (by omega)
              refine lv_iinc (v := t140) (lv' := [(2, .int t140), (3, .int ra124), (0, .ref h0), (1, .int 1)]) hx hb dX3_readTerm_74 hl (k := 1) rfl (by rw [et140]; rfl) (by decide) rfl (fun ls hl => ?_)
              refine lv_goto (tgt := 12) hx hb dX3_readTerm_77 (by decide) ?_
              exact ih_hL122 t140 x138 x131 x132 x133 fn139 H locs ls (by first | omega | decide) (by first | omega | decide) (by first | omega | decide) (by first | omega | decide) (by first | omega | (simp only [Int.toNat] at *; omega)) hP hD hS (lv_sub hl [0, 2, 3] rfl)
            · skip
              have fc135 : ra129.toInt = 0 := congrArg Int32.toInt c135
              refine lv_iconst (v := 0) hx hb dX3_readTerm_56 (by decide) ?_
              subst hQ
              have hP9 := hP.sub (ws' := (wd_1ad0248d h0 h1 h3 x130 h1 h2 v1 x131 x132 x133 h2 g0 f5 h3 g1 fn134)) [0, 1, 2, 3] rfl
              have hD9 := hD.sub (ws' := (wd_1ad0248d h0 h1 h3 x130 h1 h2 v1 x131 x132 x133 h2 g0 f5 h3 g1 fn134)) [0, 1, 2, 3] (by decide) rfl
              have hK9 := hK.sub (tys' := []) [] rfl
              exact W.zret (v := 0) hx hb hr rfl (fun t ht hW => ⟨⟨0, (), rfl, ⟨by first | omega | decide, by first | omega | decide⟩, x130, x131, x132, x133, fn134, by first | omega | decide, by first | omega | decide, by rw [ht]; exact hP9, va_K.moved hW.alike hK9, hD9⟩, hS.F ht⟩) hS.2.2 dX3_readTerm_57
          · skip
            have fc126 : ¬ (ra124.toInt = 42) := fun h9 => c126 (Int32.toInt_inj.mp h9)
            refine lv_iload_n hx hb dX3_readTerm_33 rfl (lv_at hl 0 rfl) ?_
            refine lv_bipush (v := 47) hx hb dX3_readTerm_34 (by decide) ?_
            refine lv_icmp_eq (tgt := 41) hx hb dX3_readTerm_36 (by decide) (fun c141 => ?_) (fun c141 => ?_)
            · skip
              have fc141 : ra124.toInt = 47 := congrArg Int32.toInt c141
              refine lv_aload_n hx hb dX3_readTerm_41 rfl (lv_at hl 2 rfl) ?_
              refine va_get (D := (dC, dI)) (ci := 3) (v := .ref h1) (C := RX3) (T := TX3) (N := 3) hx hb hts (fun _ h => List.mem_cons_of_mem _ (List.mem_append_left _ (List.mem_append_right _ h))) hown hK hP 0 rfl rfl 0 (by decide) (hts (.fieldLink RX3 19 "LeftArguments$LawReader" "tape" "LLeftArguments$Tape;") (List.mem_cons_of_mem _ (List.mem_append_left _ (List.mem_append_left _ (List.mem_of_getElem? (i := 1) rfl))))) (fun _ h9 => h9) rfl dX3_readTerm_42 ?_
              have hPc := hP.sub (ws' := (wd_09b0abee h1 h2 v1 x125 x113 x114)) [1] rfl
              have hDc := hD.sub (ws' := (wd_09b0abee h1 h2 v1 x125 x113 x114)) [1] (by decide) rfl
              have hKc := hK.sub (tys' := []) [] rfl
              have hFc := va_free (wc := (wd_09b0abee h1 h2 v1 x125 x113 x114)) hD hS hA [1] rfl
              refine va_callv (va_runV (As := []) (rest := []) ⟨hx, hb, hml, hown, hts⟩ (k_X10_step l dC dI h1 h2 v1 x125 x113 x114 ⟨by first | omega | decide, by first | omega | decide⟩ H.size) (cwV 0 hts g_X3_readTerm_5_2 rfl rfl rfl (by decide +kernel) ⟨Nat.le_of_ble_eq_true rfl, Nat.le_of_ble_eq_true rfl⟩) ⟨fun a U g mk q => by obtain ⟨q0, q1, qP, qK, qD⟩ := q; exact ⟨q0, q1, qP, va_K.moved (u := U) (U := U.calling g mk a) (Vm.Alike.refl U.vm) qK, qD⟩, va_recv hKc hPc (ci := 10) (q0 := 0) rfl rfl, fun U hU hW => ⟨rfl, by rw [hU], by rw [hU]; exact hPc, va_K.moved hW.alike hKc, hDc.weaken (fun _ _ _ _ => trivial)⟩⟩ rfl rfl hl.1 rfl (lv_room (Nat.le_of_ble_eq_true rfl)) dX3_readTerm_45 ⟨Nat.le_of_ble_eq_true rfl, Nat.le_of_ble_eq_true rfl⟩) hS (fun q _ h => hFc q h) hFc (fun u t H1 locs ht hvm hwra142 hB hz1 hk1 hS => ?_)
              obtain ⟨x143, hP1, hK1, hD1⟩ := hB
              rw [ht] at hP1
              obtain ⟨hP, hD⟩ := va_join (wr := (wd_6b0d8e05 h0 h1 h3 x111 h2 g0 f5 h3 g1 fn115)) (w1 := (wd_09b0abee h1 h2 v1 x143 x113 x114)) hP hD [1] [0, 2, 3] rfl rfl (by decide) (by decide) hk1 hFc hP1 hD1
              generalize H1 = H at hP hS ⊢
              have hP := hP.sub (ws' := (wd_1ad0248d h0 h1 h3 x111 h1 h2 v1 x143 x113 x114 h2 g0 f5 h3 g1 fn115)) [0, 3, 1, 2] rfl
              have hD := hD.sub (ws' := (wd_1ad0248d h0 h1 h3 x111 h1 h2 v1 x143 x113 x114 h2 g0 f5 h3 g1 fn115)) [0, 3, 1, 2] (by decide) rfl
              have hP : va_P (dC, dI) vwCl (wd_1ad0248d h0 h1 h3 x111 h1 h2 v1 x143 x113 x114 h2 g0 f5 h3 g1 fn115) H := hP
              have hD : va_D A (wd_1ad0248d h0 h1 h3 x111 h1 h2 v1 x143 x113 x114 h2 g0 f5 h3 g1 fn115) := hD
              refine lv_aload_n hx hb dX3_readTerm_48 rfl (lv_at hl 2 rfl) ?_
              refine lv_iload_n hx hb dX3_readTerm_49 rfl (lv_at hl 3 rfl) ?_
              have hPc := hP.sub (ws' := (wd_1ad0248d h0 h1 h3 x111 h1 h2 v1 x143 x113 x114 h2 g0 f5 h3 g1 fn115)) [0, 1, 2, 3] rfl
              have hDc := hD.sub (ws' := (wd_1ad0248d h0 h1 h3 x111 h1 h2 v1 x143 x113 x114 h2 g0 f5 h3 g1 fn115)) [0, 1, 2, 3] (by decide) rfl
              have hKc := hK.sub (tys' := [(g0, .int), (g1, .int)]) [0, 1] rfl
              have hFc := va_free (wc := (wd_1ad0248d h0 h1 h3 x111 h1 h2 v1 x143 x113 x114 h2 g0 f5 h3 g1 fn115)) hD hS hA [0, 1, 2, 3] rfl
              refine va_calli (va_runV (As := [.int 1]) (rest := []) ⟨hx, hb, hml, hown, hts⟩ (k_X3_readAtom_5 l dC dI adK adV h0 h1 h2 h3 x111 v1 x143 x113 x114 g0 f5 g1 fn115 ⟨by first | omega | decide, by first | omega | decide⟩ ⟨by first | omega | decide, by first | omega | decide⟩ H.size) (cwV 1 hts g_X3_readTerm_5_0 rfl rfl rfl (by decide +kernel) ⟨Nat.le_of_ble_eq_true rfl, Nat.le_of_ble_eq_true rfl⟩) ⟨fun a U g mk q => by obtain ⟨q0, q1, qP, qK, qD, n0, n1, n2⟩ := q; exact ⟨q0, q1, qP, va_K.moved (u := U) (U := U.calling g mk a) (Vm.Alike.refl U.vm) qK, qD, vk_R.same rfl n0, va_Z.moved (Vm.Alike.refl _) n1, vk_S.moved (Vm.Alike.refl _) n2⟩, va_recv hKc hPc (ci := 3) (q0 := 0) rfl rfl, fun U hU hW => ⟨rfl, by rw [hU], by rw [hU]; exact hPc, va_K.moved hW.alike hKc, hDc.weaken (fun _ _ _ _ => trivial), vk_R.warm hW h_vr_2, (by rw [hU]; exact (va_Z.moved hW.alike (va_Z.kept h_st_CS hS.2.1)).narrow hFc), (by rw [hU]; exact (vk_S.moved hW.alike (vk_S.kept h_st_S hS.2.1)).narrow hFc)⟩⟩ rfl rfl hl.1 rfl (lv_room (Nat.le_of_ble_eq_true rfl)) dX3_readTerm_50 ⟨Nat.le_of_ble_eq_true rfl, Nat.le_of_ble_eq_true rfl⟩) hS (fun q _ h => hFc q h) hFc (fun ra144 u t H1 locs ht hvm hwra144 hB hz1 hk1 hS => ?_)
              obtain ⟨x145, x146, x147, x148, fn149, oa_x145, ob_x145, hP1, hK1, hD1⟩ := hB
              rw [ht] at hP1
              obtain ⟨hP, hD⟩ := va_join (wr := []) (w1 := (wd_1ad0248d h0 h1 h3 x145 h1 h2 v1 x146 x147 x148 h2 g0 f5 h3 g1 fn149)) hP hD [0, 1, 2, 3] [] rfl rfl (by decide) (by decide) hk1 hFc hP1 hD1
              generalize H1 = H at hP hS ⊢
              have hP : va_P (dC, dI) vwCl (wd_1ad0248d h0 h1 h3 x145 h1 h2 v1 x146 x147 x148 h2 g0 f5 h3 g1 fn149) H := hP
              have hD : va_D A (wd_1ad0248d h0 h1 h3 x145 h1 h2 v1 x146 x147 x148 h2 g0 f5 h3 g1 fn149) := hD
              obtain ⟨wa_ra144, wb_ra144⟩ := hwra144
              have wa_ra144 : 0 ≤ ra144.toInt := wa_ra144
              have wb_ra144 : ra144.toInt ≤ 1 := wb_ra144
              refine lv_if_ne (tgt := 58) hx hb dX3_readTerm_53 (by decide) (fun c150 => ?_) (fun c150 => ?_)
              · skip
                have fc150 : ¬ (ra144.toInt = 0) := fun h9 => c150 (Int32.toInt_inj.mp h9)
                refine lv_aload_n hx hb dX3_readTerm_58 rfl (lv_at hl 2 rfl) ?_
                refine lv_iload_n hx hb dX3_readTerm_59 rfl (lv_at hl 0 rfl) ?_
                refine lv_bipush (v := 42) hx hb dX3_readTerm_60 (by decide) ?_
                refine lv_icmp_ne (tgt := 69) hx hb dX3_readTerm_62 (by decide) (fun _ => ?_) (fun c151 => by exfalso; have fc151 : ra124.toInt = 42 := congrArg Int32.toInt c151; omega)
                refine lv_iconst (v := 5) hx hb dX3_readTerm_69 (by decide) ?_
                refine lv_iconst (v := 0) hx hb dX3_readTerm_70 (by decide) ?_
                have hPc := hP.sub (ws' := (wd_b958b9da h0 h1 h3 x145 h3 g1 fn149)) [0, 3] rfl
                have hDc := hD.sub (ws' := (wd_b958b9da h0 h1 h3 x145 h3 g1 fn149)) [0, 3] (by decide) rfl
                have hKc := hK.sub (tys' := [(g1, .int)]) [1] rfl
                have hFc := va_free (wc := (wd_b958b9da h0 h1 h3 x145 h3 g1 fn149)) hD hS hA [0, 3] rfl
                refine va_callv (va_runV (As := [.int 5, .int 0]) (rest := []) ⟨hx, hb, hml, hown, hts⟩ (k_X3_write l dC dI h0 h3 h1 x145 g1 fn149 5 0 ⟨by first | omega | decide, by first | omega | decide⟩ H.size) (cwV 2 hts g_X3_readTerm_5_4 rfl rfl rfl (by decide +kernel) ⟨Nat.le_of_ble_eq_true rfl, Nat.le_of_ble_eq_true rfl⟩) ⟨fun a U g mk q => by obtain ⟨q0, q1, qP, qK, qD⟩ := q; exact ⟨q0, q1, qP, va_K.moved (u := U) (U := U.calling g mk a) (Vm.Alike.refl U.vm) qK, qD⟩, va_recv hKc hPc (ci := 3) (q0 := 0) rfl rfl, fun U hU hW => ⟨rfl, by rw [hU], by rw [hU]; exact hPc, va_K.moved hW.alike hKc, hDc.weaken (fun _ _ _ _ => trivial)⟩⟩ rfl rfl hl.1 rfl (lv_room (Nat.le_of_ble_eq_true rfl)) dX3_readTerm_71 ⟨Nat.le_of_ble_eq_true rfl, Nat.le_of_ble_eq_true rfl⟩) hS (fun q _ h => hFc q h) hFc (fun u t H1 locs ht hvm hwra152 hB hz1 hk1 hS => ?_)
                obtain ⟨x153, fn154, oa_x153, ob_x153, hP1, hK1, hD1⟩ := hB
                rw [ht] at hP1
                obtain ⟨hP, hD⟩ := va_join (wr := (wd_82cdd16b h1 h2 v1 x146 x147 x148 h2 g0 f5)) (w1 := (wd_b958b9da h0 h1 h3 x153 h3 g1 fn154)) hP hD [0, 3] [1, 2] rfl rfl (by decide) (by decide) hk1 hFc hP1 hD1
                generalize H1 = H at hP hS ⊢
                have hP := hP.sub (ws' := (wd_1ad0248d h0 h1 h3 x153 h1 h2 v1 x146 x147 x148 h2 g0 f5 h3 g1 fn154)) [2, 0, 1, 3] rfl
                have hD := hD.sub (ws' := (wd_1ad0248d h0 h1 h3 x153 h1 h2 v1 x146 x147 x148 h2 g0 f5 h3 g1 fn154)) [2, 0, 1, 3] (by decide) rfl
                have hP : va_P (dC, dI) vwCl (wd_1ad0248d h0 h1 h3 x153 h1 h2 v1 x146 x147 x148 h2 g0 f5 h3 g1 fn154) H := hP
                have hD : va_D A (wd_1ad0248d h0 h1 h3 x153 h1 h2 v1 x146 x147 x148 h2 g0 f5 h3 g1 fn154) := hD
                obtain ⟨t155, et155⟩ : ∃ y : Int32, y = x110 + 1 := ⟨_, rfl⟩
                have gt155 : t155.toInt = x110.toInt + (1) := pv_add (a := x110.toInt) (b := (1)) et155 rfl (by decide) (by omega) (by omega)
                refine lv_iinc (v := t155) (lv' := [(2, .int t155), (3, .int ra124), (0, .ref h0), (1, .int 1)]) hx hb dX3_readTerm_74 hl (k := 1) rfl (by rw [et155]; rfl) (by decide) rfl (fun ls hl => ?_)
                refine lv_goto (tgt := 12) hx hb dX3_readTerm_77 (by decide) ?_
                exact ih_hL122 t155 x153 x146 x147 x148 fn154 H locs ls (by first | omega | decide) (by first | omega | decide) (by first | omega | decide) (by first | omega | decide) (by first | omega | (simp only [Int.toNat] at *; omega)) hP hD hS (lv_sub hl [0, 2, 3] rfl)
              · skip
                have fc150 : ra144.toInt = 0 := congrArg Int32.toInt c150
                refine lv_iconst (v := 0) hx hb dX3_readTerm_56 (by decide) ?_
                subst hQ
                have hP9 := hP.sub (ws' := (wd_1ad0248d h0 h1 h3 x145 h1 h2 v1 x146 x147 x148 h2 g0 f5 h3 g1 fn149)) [0, 1, 2, 3] rfl
                have hD9 := hD.sub (ws' := (wd_1ad0248d h0 h1 h3 x145 h1 h2 v1 x146 x147 x148 h2 g0 f5 h3 g1 fn149)) [0, 1, 2, 3] (by decide) rfl
                have hK9 := hK.sub (tys' := []) [] rfl
                exact W.zret (v := 0) hx hb hr rfl (fun t ht hW => ⟨⟨0, (), rfl, ⟨by first | omega | decide, by first | omega | decide⟩, x145, x146, x147, x148, fn149, by first | omega | decide, by first | omega | decide, by rw [ht]; exact hP9, va_K.moved hW.alike hK9, hD9⟩, hS.F ht⟩) hS.2.2 dX3_readTerm_57
            · skip
              have fc141 : ¬ (ra124.toInt = 47) := fun h9 => c141 (Int32.toInt_inj.mp h9)
              refine lv_iconst (v := 1) hx hb dX3_readTerm_39 (by decide) ?_
              subst hQ
              have hP9 := hP.sub (ws' := (wd_1ad0248d h0 h1 h3 x111 h1 h2 v1 x125 x113 x114 h2 g0 f5 h3 g1 fn115)) [0, 1, 2, 3] rfl
              have hD9 := hD.sub (ws' := (wd_1ad0248d h0 h1 h3 x111 h1 h2 v1 x125 x113 x114 h2 g0 f5 h3 g1 fn115)) [0, 1, 2, 3] (by decide) rfl
              have hK9 := hK.sub (tys' := []) [] rfl
              exact W.zret (v := 1) hx hb hr rfl (fun t ht hW => ⟨⟨1, (), rfl, ⟨by first | omega | decide, by first | omega | decide⟩, x111, x125, x113, x114, fn115, by first | omega | decide, by first | omega | decide, by rw [ht]; exact hP9, va_K.moved hW.alike hK9, hD9⟩, hS.F ht⟩) hS.2.2 dX3_readTerm_40
    exact hL122 _ 0 x2 x3 x4 x5 fn6 H locs ls (by first | omega | decide) (by first | omega | decide) (by first | omega | decide) (by first | omega | decide) (Nat.lt_succ_self _) hP hD hS (lv_sub hl [0, 1, 2] rfl)
  · skip
    have fc7 : ra1.toInt = 0 := congrArg Int32.toInt c7
    refine lv_iconst (v := 0) hx hb dX3_readTerm_8 (by decide) ?_
    subst hQ
    have hP9 := hP.sub (ws' := (wd_1ad0248d h0 h1 h3 x2 h1 h2 v1 x3 x4 x5 h2 g0 f5 h3 g1 fn6)) [0, 1, 2, 3] rfl
    have hD9 := hD.sub (ws' := (wd_1ad0248d h0 h1 h3 x2 h1 h2 v1 x3 x4 x5 h2 g0 f5 h3 g1 fn6)) [0, 1, 2, 3] (by decide) rfl
    have hK9 := hK.sub (tys' := []) [] rfl
    exact W.zret (v := 0) hx hb hr rfl (fun t ht hW => ⟨⟨0, (), rfl, ⟨by first | omega | decide, by first | omega | decide⟩, x2, x3, x4, x5, fn6, by first | omega | decide, by first | omega | decide, by rw [ht]; exact hP9, va_K.moved hW.alike hK9, hD9⟩, hS.F ht⟩) hS.2.2 dX3_readTerm_9
def q_X3_readSum_5 : List Cond := .code yX3_readSum cX3_readSum 4 (some .boolean) :: (([.code yX3_readTerm cX3_readTerm 4 (some .boolean), .code yX3_readAtom cX3_readAtom 4 (some .boolean), .fieldLink RX3 19 "LeftArguments$LawReader" "tape" "LLeftArguments$Tape;", .code yX10_next cX10_next 1 (some .int), .fieldLink RX10 19 "LeftArguments$Tape" "at" "I", .fieldLink RX10 15 "LeftArguments$Tape" "used" "I", .fieldLink RX10 9 "LeftArguments$Tape" "bytes" "[I", .initialized RX10, .instanceMethod yX10_next, .selects RX10 yX10_next yX10_next, .methodLink RX3 48 yX10_next, .code yX10_isDigit cX10_isDigit 1 (some .boolean), .static yX10_isDigit, .methodLink RX3 92 yX10_isDigit, .code yX10_step cX10_step 1 none, .instanceMethod yX10_step, .selects RX10 yX10_step yX10_step, .methodLink RX3 77 yX10_step, .code yX3_write cX3_write 3 none, .fieldLink RX3 15 "LeftArguments$LawReader" "used" "I", .fieldLink RX3 11 "LeftArguments$LawReader" "code" "[I", .initialized RX3, .instanceMethod yX3_write, .selects RX3 yX3_write yX3_write, .methodLink RX3 66 yX3_write, .code yX10_wrongHere cX10_wrongHere 1 (some .boolean), .fieldLink RX10 22 "LeftArguments$Tape" "wrongAt" "I", .instanceMethod yX10_wrongHere, .selects RX10 yX10_wrongHere yX10_wrongHere, .methodLink RX3 83 yX10_wrongHere, .code yJ0_indexOf_0f7a4 cJ0_indexOf_0f7a4 2 (some .int), .code yJ0_indexOf_7cf53 cJ0_indexOf_7cf53 3 (some .int), .code yJ0_isLatin1_aae02 cJ0_isLatin1_aae02 1 (some .boolean), .fieldLink RJ0 38 "java/lang/String" "COMPACT_STRINGS" "Z", .fieldLink RJ0 15 "java/lang/String" "coder" "B", .initialized RJ0, .instanceMethod yJ0_isLatin1_aae02, .selects RJ0 yJ0_isLatin1_aae02 yJ0_isLatin1_aae02, .methodLink RJ0 492 yJ0_isLatin1_aae02, .fieldLink RJ0 9 "java/lang/String" "value" "[B", .code yJ0_length_8abf5 cJ0_length_8abf5 1 (some .int), .code yJ0_coder_7d493 cJ0_coder_7d493 1 (some .byte), .instanceMethod yJ0_coder_7d493, .selects RJ0 yJ0_coder_7d493 yJ0_coder_7d493, .methodLink RJ0 335 yJ0_coder_7d493, .instanceMethod yJ0_length_8abf5, .selects RJ0 yJ0_length_8abf5 yJ0_length_8abf5, .methodLink RJ0 505 yJ0_length_8abf5, .code yJ1_indexOf_4cfef cJ1_indexOf_4cfef 4 (some .int), .code yJ1_canEncode_9a6ad cJ1_canEncode_9a6ad 1 (some .boolean), .initialized RJ1, .static yJ1_canEncode_9a6ad, .methodLink RJ1 88 yJ1_canEncode_9a6ad, .methodLink RJ1 92 Lib.Math.max.name, .static Lib.Math.max.name, .initialized "java/lang/Math", .code Lib.Math.max.name Lib.Math.max.code 2 (some .int), .methodLink RJ1 38 Lib.Math.min.name, .static Lib.Math.min.name, .code Lib.Math.min.name Lib.Math.min.code 2 (some .int), .code yJ1_indexOfChar_4cfef cJ1_indexOfChar_4cfef 6 (some .int), .static yJ1_indexOfChar_4cfef, .methodLink RJ1 95 yJ1_indexOfChar_4cfef, .static yJ1_indexOf_4cfef, .methodLink RJ0 637 yJ1_indexOf_4cfef, .instanceMethod yJ0_indexOf_7cf53, .selects RJ0 yJ0_indexOf_7cf53 yJ0_indexOf_7cf53, .methodLink RJ0 633 yJ0_indexOf_7cf53, .instanceMethod yJ0_indexOf_0f7a4, .selects RJ0 yJ0_indexOf_0f7a4 yJ0_indexOf_0f7a4, .methodLink RX3 103 yJ0_indexOf_0f7a4, .code yX10_takeNumber cX10_takeNumber 3 (some .boolean), .methodLink RX10 37 yX10_next, .methodLink RX10 45 yX10_isDigit, .fieldLink RX10 25 "LeftArguments$Tape" "number" "I", .code yX10_sign cX10_sign 1 (some .int), .instanceMethod yX10_sign, .selects RX10 yX10_sign yX10_sign, .methodLink RX10 49 yX10_sign, .methodLink RX10 41 yX10_wrongHere, .instanceMethod yX10_takeNumber, .selects RX10 yX10_takeNumber yX10_takeNumber, .methodLink RX3 95 yX10_takeNumber, .code yX10_number cX10_number 1 (some .int), .instanceMethod yX10_number, .selects RX10 yX10_number yX10_number, .methodLink RX3 98 yX10_number, .code yX3_readSum cX3_readSum 4 (some .boolean), .instanceMethod yX3_readAtom, .selects RX3 yX3_readAtom yX3_readAtom, .methodLink RX3 89 yX3_readAtom, .instanceMethod yX3_readTerm, .selects RX3 yX3_readTerm yX3_readTerm, .methodLink RX3 86 yX3_readTerm, .instanceMethod yX3_readSum, .selects RX3 yX3_readSum yX3_readSum, .methodLink RX3 59 yX3_readSum, .code yX10_take cX10_take 2 (some .boolean), .instanceMethod yX10_take, .selects RX10 yX10_take yX10_take, .methodLink RX3 51 yX10_take] : List Cond) ++ wsX30 ++ wsX100)
set_option maxRecDepth 20000 in
theorem g_X3_readSum_5_0 : GoodIn q_X3_readSum_5 (wsV RX3 86 RX3 yX3_readTerm q_X3_readTerm_5) := goodIn_app (goodIn_r _ [94, 92, 93, 22] rfl (by decide +kernel)) (goodIn_ca (goodIn_ca (goodIn_r (.code yX3_readTerm cX3_readTerm 4 (some .boolean) :: [.code yX3_readAtom cX3_readAtom 4 (some .boolean), .fieldLink RX3 19 "LeftArguments$LawReader" "tape" "LLeftArguments$Tape;", .code yX10_next cX10_next 1 (some .int), .fieldLink RX10 19 "LeftArguments$Tape" "at" "I", .fieldLink RX10 15 "LeftArguments$Tape" "used" "I", .fieldLink RX10 9 "LeftArguments$Tape" "bytes" "[I", .initialized RX10, .instanceMethod yX10_next, .selects RX10 yX10_next yX10_next, .methodLink RX3 48 yX10_next, .code yX10_isDigit cX10_isDigit 1 (some .boolean), .static yX10_isDigit, .methodLink RX3 92 yX10_isDigit, .code yX10_step cX10_step 1 none, .instanceMethod yX10_step, .selects RX10 yX10_step yX10_step, .methodLink RX3 77 yX10_step, .code yX3_write cX3_write 3 none, .fieldLink RX3 15 "LeftArguments$LawReader" "used" "I", .fieldLink RX3 11 "LeftArguments$LawReader" "code" "[I", .initialized RX3, .instanceMethod yX3_write, .selects RX3 yX3_write yX3_write, .methodLink RX3 66 yX3_write, .code yX10_wrongHere cX10_wrongHere 1 (some .boolean), .fieldLink RX10 22 "LeftArguments$Tape" "wrongAt" "I", .instanceMethod yX10_wrongHere, .selects RX10 yX10_wrongHere yX10_wrongHere, .methodLink RX3 83 yX10_wrongHere, .code yJ0_indexOf_0f7a4 cJ0_indexOf_0f7a4 2 (some .int), .code yJ0_indexOf_7cf53 cJ0_indexOf_7cf53 3 (some .int), .code yJ0_isLatin1_aae02 cJ0_isLatin1_aae02 1 (some .boolean), .fieldLink RJ0 38 "java/lang/String" "COMPACT_STRINGS" "Z", .fieldLink RJ0 15 "java/lang/String" "coder" "B", .initialized RJ0, .instanceMethod yJ0_isLatin1_aae02, .selects RJ0 yJ0_isLatin1_aae02 yJ0_isLatin1_aae02, .methodLink RJ0 492 yJ0_isLatin1_aae02, .fieldLink RJ0 9 "java/lang/String" "value" "[B", .code yJ0_length_8abf5 cJ0_length_8abf5 1 (some .int), .code yJ0_coder_7d493 cJ0_coder_7d493 1 (some .byte), .instanceMethod yJ0_coder_7d493, .selects RJ0 yJ0_coder_7d493 yJ0_coder_7d493, .methodLink RJ0 335 yJ0_coder_7d493, .instanceMethod yJ0_length_8abf5, .selects RJ0 yJ0_length_8abf5 yJ0_length_8abf5, .methodLink RJ0 505 yJ0_length_8abf5, .code yJ1_indexOf_4cfef cJ1_indexOf_4cfef 4 (some .int), .code yJ1_canEncode_9a6ad cJ1_canEncode_9a6ad 1 (some .boolean), .initialized RJ1, .static yJ1_canEncode_9a6ad, .methodLink RJ1 88 yJ1_canEncode_9a6ad, .methodLink RJ1 92 Lib.Math.max.name, .static Lib.Math.max.name, .initialized "java/lang/Math", .code Lib.Math.max.name Lib.Math.max.code 2 (some .int), .methodLink RJ1 38 Lib.Math.min.name, .static Lib.Math.min.name, .code Lib.Math.min.name Lib.Math.min.code 2 (some .int), .code yJ1_indexOfChar_4cfef cJ1_indexOfChar_4cfef 6 (some .int), .static yJ1_indexOfChar_4cfef, .methodLink RJ1 95 yJ1_indexOfChar_4cfef, .static yJ1_indexOf_4cfef, .methodLink RJ0 637 yJ1_indexOf_4cfef, .instanceMethod yJ0_indexOf_7cf53, .selects RJ0 yJ0_indexOf_7cf53 yJ0_indexOf_7cf53, .methodLink RJ0 633 yJ0_indexOf_7cf53, .instanceMethod yJ0_indexOf_0f7a4, .selects RJ0 yJ0_indexOf_0f7a4 yJ0_indexOf_0f7a4, .methodLink RX3 103 yJ0_indexOf_0f7a4, .code yX10_takeNumber cX10_takeNumber 3 (some .boolean), .methodLink RX10 37 yX10_next, .methodLink RX10 45 yX10_isDigit, .fieldLink RX10 25 "LeftArguments$Tape" "number" "I", .code yX10_sign cX10_sign 1 (some .int), .instanceMethod yX10_sign, .selects RX10 yX10_sign yX10_sign, .methodLink RX10 49 yX10_sign, .methodLink RX10 41 yX10_wrongHere, .instanceMethod yX10_takeNumber, .selects RX10 yX10_takeNumber yX10_takeNumber, .methodLink RX3 95 yX10_takeNumber, .code yX10_number cX10_number 1 (some .int), .instanceMethod yX10_number, .selects RX10 yX10_number yX10_number, .methodLink RX3 98 yX10_number, .code yX3_readSum cX3_readSum 4 (some .boolean), .code yX3_readTerm cX3_readTerm 4 (some .boolean), .instanceMethod yX3_readAtom, .selects RX3 yX3_readAtom yX3_readAtom, .methodLink RX3 89 yX3_readAtom, .instanceMethod yX3_readTerm, .selects RX3 yX3_readTerm yX3_readTerm, .methodLink RX3 86 yX3_readTerm, .instanceMethod yX3_readSum, .selects RX3 yX3_readSum yX3_readSum, .methodLink RX3 59 yX3_readSum, .code yX10_take cX10_take 2 (some .boolean), .instanceMethod yX10_take, .selects RX10 yX10_take yX10_take, .methodLink RX3 51 yX10_take]) [1, 2, 3, 4, 5, 6, 7, 8, 9, 10, 11, 12, 13, 14, 15, 16, 17, 18, 19, 20, 21, 22, 23, 24, 25, 26, 27, 28, 29, 30, 31, 32, 33, 34, 35, 36, 37, 38, 39, 40, 41, 42, 43, 44, 45, 46, 47, 48, 49, 50, 51, 52, 53, 54, 55, 56, 57, 58, 59, 60, 61, 62, 63, 64, 65, 66, 67, 68, 69, 70, 71, 72, 73, 74, 75, 76, 77, 78, 79, 80, 81, 82, 83, 84, 85, 86, 87, 88, 1, 89, 90, 91, 92, 93, 94, 95, 96, 97, 98, 99, 100, 101] rfl (by decide +kernel)) (goodIn_sub (fun _ h => List.mem_cons_of_mem _ (List.mem_append_left _ (List.mem_append_right _ h))) gwX3)) (goodIn_sub (fun _ h => List.mem_cons_of_mem _ (List.mem_append_right _ h)) gwX10))
set_option maxRecDepth 20000 in
theorem g_X3_readSum_5_1 : GoodIn q_X3_readSum_5 (wsV RX3 48 RX10 yX10_next q_X10_next) := goodIn_app (goodIn_r _ [11, 9, 10, 8] rfl (by decide +kernel)) (goodIn_ca (goodIn_r (.code yX10_next cX10_next 1 (some .int) :: [.fieldLink RX10 19 "LeftArguments$Tape" "at" "I", .fieldLink RX10 15 "LeftArguments$Tape" "used" "I", .fieldLink RX10 9 "LeftArguments$Tape" "bytes" "[I"]) [4, 5, 6, 7] rfl (by decide +kernel)) (goodIn_sub (fun _ h => List.mem_cons_of_mem _ (List.mem_append_right _ h)) gwX10))
set_option maxRecDepth 20000 in
theorem g_X3_readSum_5_2 : GoodIn q_X3_readSum_5 (wsV RX3 77 RX10 yX10_step q_X10_step) := goodIn_app (goodIn_r _ [18, 16, 17, 8] rfl (by decide +kernel)) (goodIn_ca (goodIn_r (.code yX10_step cX10_step 1 none :: [.fieldLink RX10 19 "LeftArguments$Tape" "at" "I"]) [15, 5] rfl (by decide +kernel)) (goodIn_sub (fun _ h => List.mem_cons_of_mem _ (List.mem_append_right _ h)) gwX10))
set_option maxRecDepth 20000 in
theorem g_X3_readSum_5_4 : GoodIn q_X3_readSum_5 (wsV RX3 66 RX3 yX3_write q_X3_write) := goodIn_app (goodIn_r _ [25, 23, 24, 22] rfl (by decide +kernel)) (goodIn_ca (goodIn_r (.code yX3_write cX3_write 3 none :: [.fieldLink RX3 15 "LeftArguments$LawReader" "used" "I", .fieldLink RX3 11 "LeftArguments$LawReader" "code" "[I"]) [19, 20, 21] rfl (by decide +kernel)) (goodIn_sub (fun _ h => List.mem_cons_of_mem _ (List.mem_append_left _ (List.mem_append_right _ h))) gwX3))
set_option maxHeartbeats 4000000 in
set_option maxRecDepth 100000 in
theorem k_X3_readSum_5 (l : Launch) (dC : Nat → ClassId) (dI : Nat → Nat → Nat) (adK : Nat → Nat) (adV : Nat → Nat) (h0 : Nat) (h1 : Nat) (h2 : Nat) (h3 : Nat) (v0 : Int32) (v1 : Int32) (v2 : Int32) (v3 : Int32) (v4 : Int32) (g0 : ClassId) (f5 : Nat → Int32) (g1 : ClassId) (f6 : Nat → Int32) (i_v0 : 0 ≤ v0.toInt ∧ v0.toInt ≤ 256) (i_v1 : 0 ≤ v1.toInt ∧ v1.toInt ≤ 240) (sz : Nat) : Met l yX3_readSum q_X3_readSum_5 ({ frames := 21, cells := 0, slots := 0, locals := 482 }) (va_Pc [.ref h0, .int 1] (fun U => U.heap.size = sz ∧ va_P (dC, dI) vwCl (wd_1ad0248d h0 h1 h3 v0 h1 h2 v1 v2 v3 v4 h2 g0 f5 h3 g1 f6) U.heap ∧ va_K (dC, dI) vwCl [(g0, .int), (g1, .int)] U ∧ va_D (fun _ => True) (wd_1ad0248d h0 h1 h3 v0 h1 h2 v1 v2 v3 v4 h2 g0 f5 h3 g1 f6) ∧ vk_R RX3 101 "zaondt" (adK 2) U ∧ va_Z "java/lang/String" "COMPACT_STRINGS" "Z" (.int 1) (va_A (wd_1ad0248d h0 h1 h3 v0 h1 h2 v1 v2 v3 v4 h2 g0 f5 h3 g1 f6) sz) U U.heap ∧ vk_S 3 pv_len3 pv_byt3 adK adV (va_A (wd_1ad0248d h0 h1 h3 v0 h1 h2 v1 v2 v3 v4 h2 g0 f5 h3 g1 f6) sz) U U.heap)) (va_Qi (fun (r : Int32) (_ : Unit) => 0 ≤ r.toInt ∧ r.toInt ≤ 1) (fun (_ : Unit) (t : State) => ∃ (o_h0_2 : Int32) (o_h1_2 : Int32) (o_h1_3 : Int32) (o_h1_4 : Int32) (o_h3 : Nat → Int32), 0 ≤ o_h0_2.toInt ∧ o_h0_2.toInt ≤ 256 ∧ va_P (dC, dI) vwCl (wd_1ad0248d h0 h1 h3 o_h0_2 h1 h2 v1 o_h1_2 o_h1_3 o_h1_4 h2 g0 f5 h3 g1 o_h3) t.heap ∧ va_K (dC, dI) vwCl [] t ∧ va_D (va_A (wd_1ad0248d h0 h1 h3 v0 h1 h2 v1 v2 v3 v4 h2 g0 f5 h3 g1 f6) sz) (wd_1ad0248d h0 h1 h3 o_h0_2 h1 h2 v1 o_h1_2 o_h1_3 o_h1_4 h2 g0 f5 h3 g1 o_h3)) (va_A (wd_1ad0248d h0 h1 h3 v0 h1 h2 v1 v2 v3 v4 h2 g0 f5 h3 g1 f6) sz)) 0 0 (va_A (wd_1ad0248d h0 h1 h3 v0 h1 h2 v1 v2 v3 v4 h2 g0 f5 h3 g1 f6) sz) := by
  refine Met.ofW (cc := cX3_readSum) (maxL := 4) (ret := (some .boolean)) (by decide) rfl ?_
  intro p e s m args below meth c s₁ B hml hv
  obtain ⟨i_v0a, i_v0b⟩ := i_v0
  obtain ⟨i_v1a, i_v1b⟩ := i_v1
  obtain ⟨rfl, hsz, hP, hK, hD0, h_vr_2, h_st_CS, h_st_S⟩ := hv
  have hx := B.exec
  have hb := B.bytes
  have hr := B.returns
  have hts := atoms_spec (ws := q_X3_readSum_5) B.pre
  have hown : s.vm.findClass RX3 = some m.cls := findClass_of_methodNamed B.named
  have hlocks := B.notSynchronized
  subst hsz
  have hD := hD0.self (sz := s.heap.size)
  generalize hAe : va_A (wd_1ad0248d h0 h1 h3 v0 h1 h2 v1 v2 v3 v4 h2 g0 f5 h3 g1 f6) s.heap.size = A at hD h_st_CS h_st_S ⊢
  have hA : ∀ q : Nat, s.heap.size ≤ q → A q := fun q h => by rw [← hAe]; exact Or.inr h
  have hS : va_S A s.heap s.heap [] := va_S.rf
  generalize hQ : (MQ below _ _ s 0 0 A) = Q
  have hl := lv_entry ([.ref h0, .int 1]) (n := 4) (Nat.le_of_ble_eq_true rfl)
  rw [lg_entry_eq]
  generalize (lg_sl ([.ref h0, .int 1]) ++ List.replicate (4 - (lg_sl ([.ref h0, .int 1])).length) Slot.unset).toArray = ls at hl ⊢
  have hl : lv_has ls 4 [(0, .ref h0), (1, .int 1)] := hl
  obtain ⟨H, hH⟩ : ∃ H : Heap, H = s.heap := ⟨_, rfl⟩
  obtain ⟨locs, hlocs⟩ : ∃ y : List Loc, y = [] := ⟨_, rfl⟩
  have hS : va_S A s.heap H locs := by rw [hH, hlocs]; exact va_S.rf
  have hP : va_P (dC, dI) vwCl (wd_1ad0248d h0 h1 h3 v0 h1 h2 v1 v2 v3 v4 h2 g0 f5 h3 g1 f6) H := by rw [hH]; exact hP
  rw [← hH, ← hlocs]
  refine lv_aload_n hx hb dX3_readSum_0 rfl (lv_at hl 0 rfl) ?_
  refine lv_iload_n hx hb dX3_readSum_1 rfl (lv_at hl 1 rfl) ?_
  have hPc := hP.sub (ws' := (wd_1ad0248d h0 h1 h3 v0 h1 h2 v1 v2 v3 v4 h2 g0 f5 h3 g1 f6)) [0, 1, 2, 3] rfl
  have hDc := hD.sub (ws' := (wd_1ad0248d h0 h1 h3 v0 h1 h2 v1 v2 v3 v4 h2 g0 f5 h3 g1 f6)) [0, 1, 2, 3] (by decide) rfl
  have hKc := hK.sub (tys' := [(g0, .int), (g1, .int)]) [0, 1] rfl
  have hFc := va_free (wc := (wd_1ad0248d h0 h1 h3 v0 h1 h2 v1 v2 v3 v4 h2 g0 f5 h3 g1 f6)) hD hS hA [0, 1, 2, 3] rfl
  refine va_calli (va_runV (As := [.int 1]) (rest := []) ⟨hx, hb, hml, hown, hts⟩ (k_X3_readTerm_5 l dC dI adK adV h0 h1 h2 h3 v0 v1 v2 v3 v4 g0 f5 g1 f6 ⟨by first | omega | decide, by first | omega | decide⟩ ⟨by first | omega | decide, by first | omega | decide⟩ H.size) (cwV 1 hts g_X3_readSum_5_0 rfl rfl rfl (by decide +kernel) ⟨Nat.le_of_ble_eq_true rfl, Nat.le_of_ble_eq_true rfl⟩) ⟨fun a U g mk q => by obtain ⟨q0, q1, qP, qK, qD, n0, n1, n2⟩ := q; exact ⟨q0, q1, qP, va_K.moved (u := U) (U := U.calling g mk a) (Vm.Alike.refl U.vm) qK, qD, vk_R.same rfl n0, va_Z.moved (Vm.Alike.refl _) n1, vk_S.moved (Vm.Alike.refl _) n2⟩, va_recv hKc hPc (ci := 3) (q0 := 0) rfl rfl, fun U hU hW => ⟨rfl, by rw [hU], by rw [hU]; exact hPc, va_K.moved hW.alike hKc, hDc.weaken (fun _ _ _ _ => trivial), vk_R.warm hW h_vr_2, (by rw [hU]; exact (va_Z.moved hW.alike (va_Z.kept h_st_CS hS.2.1)).narrow hFc), (by rw [hU]; exact (vk_S.moved hW.alike (vk_S.kept h_st_S hS.2.1)).narrow hFc)⟩⟩ rfl rfl hl.1 rfl (lv_room (Nat.le_of_ble_eq_true rfl)) dX3_readSum_2 ⟨Nat.le_of_ble_eq_true rfl, Nat.le_of_ble_eq_true rfl⟩) hS (fun q _ h => hFc q h) hFc (fun ra1 u t H1 locs ht hvm hwra1 hB hz1 hk1 hS => ?_)
  obtain ⟨x2, x3, x4, x5, fn6, oa_x2, ob_x2, hP1, hK1, hD1⟩ := hB
  rw [ht] at hP1
  obtain ⟨hP, hD⟩ := va_join (wr := []) (w1 := (wd_1ad0248d h0 h1 h3 x2 h1 h2 v1 x3 x4 x5 h2 g0 f5 h3 g1 fn6)) hP hD [0, 1, 2, 3] [] rfl rfl (by decide) (by decide) hk1 hFc hP1 hD1
  generalize H1 = H at hP hS ⊢
  have hP : va_P (dC, dI) vwCl (wd_1ad0248d h0 h1 h3 x2 h1 h2 v1 x3 x4 x5 h2 g0 f5 h3 g1 fn6) H := hP
  have hD : va_D A (wd_1ad0248d h0 h1 h3 x2 h1 h2 v1 x3 x4 x5 h2 g0 f5 h3 g1 fn6) := hD
  obtain ⟨wa_ra1, wb_ra1⟩ := hwra1
  have wa_ra1 : 0 ≤ ra1.toInt := wa_ra1
  have wb_ra1 : ra1.toInt ≤ 1 := wb_ra1
  refine lv_if_ne (tgt := 10) hx hb dX3_readSum_5 (by decide) (fun c7 => ?_) (fun c7 => ?_)
  · skip
    have fc7 : ¬ (ra1.toInt = 0) := fun h9 => c7 (Int32.toInt_inj.mp h9)
    refine lv_iconst (v := 0) hx hb dX3_readSum_10 (by decide) ?_
    refine lv_istore_n (lv' := [(2, .int 0), (0, .ref h0), (1, .int 1)]) hx hb dX3_readSum_11 rfl hl (by decide) rfl (fun ls hl => ?_)
    have hL104 : ∀ (n9 : Nat), ∀ (x92 : Int32) (x93 : Int32) (x94 : Int32) (x95 : Int32) (x96 : Int32) (fn97 : Nat → Int32) (H : Heap) (locs : List Loc) (ls : Array Slot), 0 ≤ x92.toInt → x92.toInt ≤ 240 → 0 ≤ x93.toInt → x93.toInt ≤ 256 → (240 - x92.toInt).toNat < n9 → va_P (dC, dI) vwCl (wd_1ad0248d h0 h1 h3 x93 h1 h2 v1 x94 x95 x96 h2 g0 f5 h3 g1 fn97) H → va_D A (wd_1ad0248d h0 h1 h3 x93 h1 h2 v1 x94 x95 x96 h2 g0 f5 h3 g1 fn97) → va_S A s.heap H locs → lv_has ls 4 [(2, .int x92), (0, .ref h0), (1, .int 1)] → W p l e ({ frames := 21, cells := 0, slots := 0, locals := 482 }) s m ([.ref h0, .int 1] : List Value).toArray below meth c H locs 0 0 Q (F0 m 12 ls []) := by
      intro n9
      induction n9 with
      | zero => intro x92 x93 x94 x95 x96 fn97 H locs ls qa_x92 qb_x92 qa_x93 qb_x93 hm9 hP hD hS hl; exact absurd hm9 (Nat.not_lt_zero _)
      | succ n9 ih_hL104 =>
        intro x92 x93 x94 x95 x96 fn97 H locs ls qa_x92 qb_x92 qa_x93 qb_x93 hm9 hP hD hS hl
        refine lv_iload_n hx hb dX3_readSum_12 rfl (lv_at hl 0 rfl) ?_
        refine lv_sipush (v := 240) hx hb dX3_readSum_13 (by decide) ?_
        refine lv_icmp_ge (tgt := 80) hx hb dX3_readSum_16 (by decide) (fun c105 => ?_) (fun c105 => ?_)
        · skip
          have fc105 : 240 ≤ x92.toInt := Int32.le_iff_toInt_le.mp c105
          refine lv_iconst (v := 1) hx hb dX3_readSum_80 (by decide) ?_
          subst hQ
          have hP9 := hP.sub (ws' := (wd_1ad0248d h0 h1 h3 x93 h1 h2 v1 x94 x95 x96 h2 g0 f5 h3 g1 fn97)) [0, 1, 2, 3] rfl
          have hD9 := hD.sub (ws' := (wd_1ad0248d h0 h1 h3 x93 h1 h2 v1 x94 x95 x96 h2 g0 f5 h3 g1 fn97)) [0, 1, 2, 3] (by decide) rfl
          have hK9 := hK.sub (tys' := []) [] rfl
          exact W.zret (v := 1) hx hb hr rfl (fun t ht hW => ⟨⟨1, (), rfl, ⟨by first | omega | decide, by first | omega | decide⟩, x93, x94, x95, x96, fn97, by first | omega | decide, by first | omega | decide, by rw [ht]; exact hP9, va_K.moved hW.alike hK9, hD9⟩, hS.F ht⟩) hS.2.2 dX3_readSum_81
        · skip
          have fc105 : ¬ (240 ≤ x92.toInt) := fun h9 => c105 (Int32.le_iff_toInt_le.mpr h9)
          refine lv_aload_n hx hb dX3_readSum_19 rfl (lv_at hl 1 rfl) ?_
          refine va_get (D := (dC, dI)) (ci := 3) (v := .ref h1) (C := RX3) (T := TX3) (N := 3) hx hb hts (fun _ h => List.mem_cons_of_mem _ (List.mem_append_left _ (List.mem_append_right _ h))) hown hK hP 0 rfl rfl 0 (by decide) (hts (.fieldLink RX3 19 "LeftArguments$LawReader" "tape" "LLeftArguments$Tape;") (List.mem_cons_of_mem _ (List.mem_append_left _ (List.mem_append_left _ (List.mem_of_getElem? (i := 2) rfl))))) (fun _ h9 => h9) rfl dX3_readSum_20 ?_
          have hPc := hP.sub (ws' := (wd_82cdd16b h1 h2 v1 x94 x95 x96 h2 g0 f5)) [1, 2] rfl
          have hDc := hD.sub (ws' := (wd_82cdd16b h1 h2 v1 x94 x95 x96 h2 g0 f5)) [1, 2] (by decide) rfl
          have hKc := hK.sub (tys' := [(g0, .int)]) [0] rfl
          have hFc := va_free (wc := (wd_82cdd16b h1 h2 v1 x94 x95 x96 h2 g0 f5)) hD hS hA [1, 2] rfl
          refine va_calli (va_runV (As := []) (rest := []) ⟨hx, hb, hml, hown, hts⟩ (k_X10_next l dC dI h1 h2 v1 x94 x95 x96 g0 f5 ⟨by first | omega | decide, by first | omega | decide⟩ H.size) (cwV 0 hts g_X3_readSum_5_1 rfl rfl rfl (by decide +kernel) ⟨Nat.le_of_ble_eq_true rfl, Nat.le_of_ble_eq_true rfl⟩) ⟨fun a U g mk q => by obtain ⟨q0, q1, qP, qK, qD⟩ := q; exact ⟨q0, q1, qP, va_K.moved (u := U) (U := U.calling g mk a) (Vm.Alike.refl U.vm) qK, qD⟩, va_recv hKc hPc (ci := 10) (q0 := 0) rfl rfl, fun U hU hW => ⟨rfl, by rw [hU], by rw [hU]; exact hPc, va_K.moved hW.alike hKc, hDc.weaken (fun _ _ _ _ => trivial)⟩⟩ rfl rfl hl.1 rfl (lv_room (Nat.le_of_ble_eq_true rfl)) dX3_readSum_23 ⟨Nat.le_of_ble_eq_true rfl, Nat.le_of_ble_eq_true rfl⟩) hS (fun q _ h => hFc q h) hFc (fun ra106 u t H1 locs ht hvm hwra106 hB hz1 hk1 hS => ?_)
          obtain ⟨x107, hP1, hK1, hD1⟩ := hB
          rw [ht] at hP1
          obtain ⟨hP, hD⟩ := va_join (wr := (wd_b958b9da h0 h1 h3 x93 h3 g1 fn97)) (w1 := (wd_82cdd16b h1 h2 v1 x107 x95 x96 h2 g0 f5)) hP hD [1, 2] [0, 3] rfl rfl (by decide) (by decide) hk1 hFc hP1 hD1
          generalize H1 = H at hP hS ⊢
          have hP := hP.sub (ws' := (wd_1ad0248d h0 h1 h3 x93 h1 h2 v1 x107 x95 x96 h2 g0 f5 h3 g1 fn97)) [0, 2, 3, 1] rfl
          have hD := hD.sub (ws' := (wd_1ad0248d h0 h1 h3 x93 h1 h2 v1 x107 x95 x96 h2 g0 f5 h3 g1 fn97)) [0, 2, 3, 1] (by decide) rfl
          have hP : va_P (dC, dI) vwCl (wd_1ad0248d h0 h1 h3 x93 h1 h2 v1 x107 x95 x96 h2 g0 f5 h3 g1 fn97) H := hP
          have hD : va_D A (wd_1ad0248d h0 h1 h3 x93 h1 h2 v1 x107 x95 x96 h2 g0 f5 h3 g1 fn97) := hD
          refine lv_istore_n (lv' := [(3, .int ra106), (2, .int x92), (0, .ref h0), (1, .int 1)]) hx hb dX3_readSum_26 rfl hl (by decide) rfl (fun ls hl => ?_)
          refine lv_iload_n hx hb dX3_readSum_27 rfl (lv_at hl 0 rfl) ?_
          refine lv_bipush (v := 43) hx hb dX3_readSum_28 (by decide) ?_
          refine lv_icmp_eq (tgt := 41) hx hb dX3_readSum_30 (by decide) (fun c108 => ?_) (fun c108 => ?_)
          · skip
            have fc108 : ra106.toInt = 43 := congrArg Int32.toInt c108
            refine lv_aload_n hx hb dX3_readSum_41 rfl (lv_at hl 2 rfl) ?_
            refine va_get (D := (dC, dI)) (ci := 3) (v := .ref h1) (C := RX3) (T := TX3) (N := 3) hx hb hts (fun _ h => List.mem_cons_of_mem _ (List.mem_append_left _ (List.mem_append_right _ h))) hown hK hP 0 rfl rfl 0 (by decide) (hts (.fieldLink RX3 19 "LeftArguments$LawReader" "tape" "LLeftArguments$Tape;") (List.mem_cons_of_mem _ (List.mem_append_left _ (List.mem_append_left _ (List.mem_of_getElem? (i := 2) rfl))))) (fun _ h9 => h9) rfl dX3_readSum_42 ?_
            have hPc := hP.sub (ws' := (wd_09b0abee h1 h2 v1 x107 x95 x96)) [1] rfl
            have hDc := hD.sub (ws' := (wd_09b0abee h1 h2 v1 x107 x95 x96)) [1] (by decide) rfl
            have hKc := hK.sub (tys' := []) [] rfl
            have hFc := va_free (wc := (wd_09b0abee h1 h2 v1 x107 x95 x96)) hD hS hA [1] rfl
            refine va_callv (va_runV (As := []) (rest := []) ⟨hx, hb, hml, hown, hts⟩ (k_X10_step l dC dI h1 h2 v1 x107 x95 x96 ⟨by first | omega | decide, by first | omega | decide⟩ H.size) (cwV 0 hts g_X3_readSum_5_2 rfl rfl rfl (by decide +kernel) ⟨Nat.le_of_ble_eq_true rfl, Nat.le_of_ble_eq_true rfl⟩) ⟨fun a U g mk q => by obtain ⟨q0, q1, qP, qK, qD⟩ := q; exact ⟨q0, q1, qP, va_K.moved (u := U) (U := U.calling g mk a) (Vm.Alike.refl U.vm) qK, qD⟩, va_recv hKc hPc (ci := 10) (q0 := 0) rfl rfl, fun U hU hW => ⟨rfl, by rw [hU], by rw [hU]; exact hPc, va_K.moved hW.alike hKc, hDc.weaken (fun _ _ _ _ => trivial)⟩⟩ rfl rfl hl.1 rfl (lv_room (Nat.le_of_ble_eq_true rfl)) dX3_readSum_45 ⟨Nat.le_of_ble_eq_true rfl, Nat.le_of_ble_eq_true rfl⟩) hS (fun q _ h => hFc q h) hFc (fun u t H1 locs ht hvm hwra109 hB hz1 hk1 hS => ?_)
            obtain ⟨x110, hP1, hK1, hD1⟩ := hB
            rw [ht] at hP1
            obtain ⟨hP, hD⟩ := va_join (wr := (wd_6b0d8e05 h0 h1 h3 x93 h2 g0 f5 h3 g1 fn97)) (w1 := (wd_09b0abee h1 h2 v1 x110 x95 x96)) hP hD [1] [0, 2, 3] rfl rfl (by decide) (by decide) hk1 hFc hP1 hD1
            generalize H1 = H at hP hS ⊢
            have hP := hP.sub (ws' := (wd_1ad0248d h0 h1 h3 x93 h1 h2 v1 x110 x95 x96 h2 g0 f5 h3 g1 fn97)) [0, 3, 1, 2] rfl
            have hD := hD.sub (ws' := (wd_1ad0248d h0 h1 h3 x93 h1 h2 v1 x110 x95 x96 h2 g0 f5 h3 g1 fn97)) [0, 3, 1, 2] (by decide) rfl
            have hP : va_P (dC, dI) vwCl (wd_1ad0248d h0 h1 h3 x93 h1 h2 v1 x110 x95 x96 h2 g0 f5 h3 g1 fn97) H := hP
            have hD : va_D A (wd_1ad0248d h0 h1 h3 x93 h1 h2 v1 x110 x95 x96 h2 g0 f5 h3 g1 fn97) := hD
            refine lv_aload_n hx hb dX3_readSum_48 rfl (lv_at hl 2 rfl) ?_
            refine lv_iload_n hx hb dX3_readSum_49 rfl (lv_at hl 3 rfl) ?_
            have hPc := hP.sub (ws' := (wd_1ad0248d h0 h1 h3 x93 h1 h2 v1 x110 x95 x96 h2 g0 f5 h3 g1 fn97)) [0, 1, 2, 3] rfl
            have hDc := hD.sub (ws' := (wd_1ad0248d h0 h1 h3 x93 h1 h2 v1 x110 x95 x96 h2 g0 f5 h3 g1 fn97)) [0, 1, 2, 3] (by decide) rfl
            have hKc := hK.sub (tys' := [(g0, .int), (g1, .int)]) [0, 1] rfl
            have hFc := va_free (wc := (wd_1ad0248d h0 h1 h3 x93 h1 h2 v1 x110 x95 x96 h2 g0 f5 h3 g1 fn97)) hD hS hA [0, 1, 2, 3] rfl
            refine va_calli (va_runV (As := [.int 1]) (rest := []) ⟨hx, hb, hml, hown, hts⟩ (k_X3_readTerm_5 l dC dI adK adV h0 h1 h2 h3 x93 v1 x110 x95 x96 g0 f5 g1 fn97 ⟨by first | omega | decide, by first | omega | decide⟩ ⟨by first | omega | decide, by first | omega | decide⟩ H.size) (cwV 1 hts g_X3_readSum_5_0 rfl rfl rfl (by decide +kernel) ⟨Nat.le_of_ble_eq_true rfl, Nat.le_of_ble_eq_true rfl⟩) ⟨fun a U g mk q => by obtain ⟨q0, q1, qP, qK, qD, n0, n1, n2⟩ := q; exact ⟨q0, q1, qP, va_K.moved (u := U) (U := U.calling g mk a) (Vm.Alike.refl U.vm) qK, qD, vk_R.same rfl n0, va_Z.moved (Vm.Alike.refl _) n1, vk_S.moved (Vm.Alike.refl _) n2⟩, va_recv hKc hPc (ci := 3) (q0 := 0) rfl rfl, fun U hU hW => ⟨rfl, by rw [hU], by rw [hU]; exact hPc, va_K.moved hW.alike hKc, hDc.weaken (fun _ _ _ _ => trivial), vk_R.warm hW h_vr_2, (by rw [hU]; exact (va_Z.moved hW.alike (va_Z.kept h_st_CS hS.2.1)).narrow hFc), (by rw [hU]; exact (vk_S.moved hW.alike (vk_S.kept h_st_S hS.2.1)).narrow hFc)⟩⟩ rfl rfl hl.1 rfl (lv_room (Nat.le_of_ble_eq_true rfl)) dX3_readSum_50 ⟨Nat.le_of_ble_eq_true rfl, Nat.le_of_ble_eq_true rfl⟩) hS (fun q _ h => hFc q h) hFc (fun ra111 u t H1 locs ht hvm hwra111 hB hz1 hk1 hS => ?_)
            obtain ⟨x112, x113, x114, x115, fn116, oa_x112, ob_x112, hP1, hK1, hD1⟩ := hB
            rw [ht] at hP1
            obtain ⟨hP, hD⟩ := va_join (wr := []) (w1 := (wd_1ad0248d h0 h1 h3 x112 h1 h2 v1 x113 x114 x115 h2 g0 f5 h3 g1 fn116)) hP hD [0, 1, 2, 3] [] rfl rfl (by decide) (by decide) hk1 hFc hP1 hD1
            generalize H1 = H at hP hS ⊢
            have hP : va_P (dC, dI) vwCl (wd_1ad0248d h0 h1 h3 x112 h1 h2 v1 x113 x114 x115 h2 g0 f5 h3 g1 fn116) H := hP
            have hD : va_D A (wd_1ad0248d h0 h1 h3 x112 h1 h2 v1 x113 x114 x115 h2 g0 f5 h3 g1 fn116) := hD
            obtain ⟨wa_ra111, wb_ra111⟩ := hwra111
            have wa_ra111 : 0 ≤ ra111.toInt := wa_ra111
            have wb_ra111 : ra111.toInt ≤ 1 := wb_ra111
            refine lv_if_ne (tgt := 58) hx hb dX3_readSum_53 (by decide) (fun c117 => ?_) (fun c117 => ?_)
            · skip
              have fc117 : ¬ (ra111.toInt = 0) := fun h9 => c117 (Int32.toInt_inj.mp h9)
              refine lv_aload_n hx hb dX3_readSum_58 rfl (lv_at hl 2 rfl) ?_
              refine lv_iload_n hx hb dX3_readSum_59 rfl (lv_at hl 0 rfl) ?_
              refine lv_bipush (v := 43) hx hb dX3_readSum_60 (by decide) ?_
              refine lv_icmp_ne (tgt := 69) hx hb dX3_readSum_62 (by decide) (fun c118 => by exfalso; have fc118 : ¬ (ra106.toInt = 43) := fun h9 => c118 (Int32.toInt_inj.mp h9); omega) (fun _ => ?_)
              refine lv_iconst (v := 2) hx hb dX3_readSum_65 (by decide) ?_
              refine lv_goto (tgt := 70) hx hb dX3_readSum_66 (by decide) ?_
              refine lv_iconst (v := 0) hx hb dX3_readSum_70 (by decide) ?_
              have hPc := hP.sub (ws' := (wd_b958b9da h0 h1 h3 x112 h3 g1 fn116)) [0, 3] rfl
              have hDc := hD.sub (ws' := (wd_b958b9da h0 h1 h3 x112 h3 g1 fn116)) [0, 3] (by decide) rfl
              have hKc := hK.sub (tys' := [(g1, .int)]) [1] rfl
              have hFc := va_free (wc := (wd_b958b9da h0 h1 h3 x112 h3 g1 fn116)) hD hS hA [0, 3] rfl
              refine va_callv (va_runV (As := [.int 2, .int 0]) (rest := []) ⟨hx, hb, hml, hown, hts⟩ (k_X3_write l dC dI h0 h3 h1 x112 g1 fn116 2 0 ⟨by first | omega | decide, by first | omega | decide⟩ H.size) (cwV 2 hts g_X3_readSum_5_4 rfl rfl rfl (by decide +kernel) ⟨Nat.le_of_ble_eq_true rfl, Nat.le_of_ble_eq_true rfl⟩) ⟨fun a U g mk q => by obtain ⟨q0, q1, qP, qK, qD⟩ := q; exact ⟨q0, q1, qP, va_K.moved (u := U) (U := U.calling g mk a) (Vm.Alike.refl U.vm) qK, qD⟩, va_recv hKc hPc (ci := 3) (q0 := 0) rfl rfl, fun U hU hW => ⟨rfl, by rw [hU], by rw [hU]; exact hPc, va_K.moved hW.alike hKc, hDc.weaken (fun _ _ _ _ => trivial)⟩⟩ rfl rfl hl.1 rfl (lv_room (Nat.le_of_ble_eq_true rfl)) dX3_readSum_71 ⟨Nat.le_of_ble_eq_true rfl, Nat.le_of_ble_eq_true rfl⟩) hS (fun q _ h => hFc q h) hFc (fun u t H1 locs ht hvm hwra119 hB hz1 hk1 hS => ?_)
              obtain ⟨x120, fn121, oa_x120, ob_x120, hP1, hK1, hD1⟩ := hB
              rw [ht] at hP1
              obtain ⟨hP, hD⟩ := va_join (wr := (wd_82cdd16b h1 h2 v1 x113 x114 x115 h2 g0 f5)) (w1 := (wd_b958b9da h0 h1 h3 x120 h3 g1 fn121)) hP hD [0, 3] [1, 2] rfl rfl (by decide) (by decide) hk1 hFc hP1 hD1
              generalize H1 = H at hP hS ⊢
              have hP := hP.sub (ws' := (wd_1ad0248d h0 h1 h3 x120 h1 h2 v1 x113 x114 x115 h2 g0 f5 h3 g1 fn121)) [2, 0, 1, 3] rfl
              have hD := hD.sub (ws' := (wd_1ad0248d h0 h1 h3 x120 h1 h2 v1 x113 x114 x115 h2 g0 f5 h3 g1 fn121)) [2, 0, 1, 3] (by decide) rfl
              have hP : va_P (dC, dI) vwCl (wd_1ad0248d h0 h1 h3 x120 h1 h2 v1 x113 x114 x115 h2 g0 f5 h3 g1 fn121) H := hP
              have hD : va_D A (wd_1ad0248d h0 h1 h3 x120 h1 h2 v1 x113 x114 x115 h2 g0 f5 h3 g1 fn121) := hD
              obtain ⟨t122, et122⟩ : ∃ y : Int32, y = x92 + 1 := ⟨_, rfl⟩
              have gt122 : t122.toInt = x92.toInt + (1) := pv_add (a := x92.toInt) (b := (1)) et122 rfl (by decide) (by omega) (by omega)
              refine lv_iinc (v := t122) (lv' := [(2, .int t122), (3, .int ra106), (0, .ref h0), (1, .int 1)]) hx hb dX3_readSum_74 hl (k := 1) rfl (by rw [et122]; rfl) (by decide) rfl (fun ls hl => ?_)
              refine lv_goto (tgt := 12) hx hb dX3_readSum_77 (by decide) ?_
              exact ih_hL104 t122 x120 x113 x114 x115 fn121 H locs ls (by first | omega | decide) (by first | omega | decide) (by first | omega | decide) (by first | omega | decide) (by first | omega | (simp only [Int.toNat] at *; omega)) hP hD hS (lv_sub hl [0, 2, 3] rfl)
            · skip
              have fc117 : ra111.toInt = 0 := congrArg Int32.toInt c117
              refine lv_iconst (v := 0) hx hb dX3_readSum_56 (by decide) ?_
              subst hQ
              have hP9 := hP.sub (ws' := (wd_1ad0248d h0 h1 h3 x112 h1 h2 v1 x113 x114 x115 h2 g0 f5 h3 g1 fn116)) [0, 1, 2, 3] rfl
              have hD9 := hD.sub (ws' := (wd_1ad0248d h0 h1 h3 x112 h1 h2 v1 x113 x114 x115 h2 g0 f5 h3 g1 fn116)) [0, 1, 2, 3] (by decide) rfl
              have hK9 := hK.sub (tys' := []) [] rfl
              exact W.zret (v := 0) hx hb hr rfl (fun t ht hW => ⟨⟨0, (), rfl, ⟨by first | omega | decide, by first | omega | decide⟩, x112, x113, x114, x115, fn116, by first | omega | decide, by first | omega | decide, by rw [ht]; exact hP9, va_K.moved hW.alike hK9, hD9⟩, hS.F ht⟩) hS.2.2 dX3_readSum_57
          · skip
            have fc108 : ¬ (ra106.toInt = 43) := fun h9 => c108 (Int32.toInt_inj.mp h9)
            refine lv_iload_n hx hb dX3_readSum_33 rfl (lv_at hl 0 rfl) ?_
            refine lv_bipush (v := 45) hx hb dX3_readSum_34 (by decide) ?_
            refine lv_icmp_eq (tgt := 41) hx hb dX3_readSum_36 (by decide) (fun c123 => ?_) (fun c123 => ?_)
            · skip
              have fc123 : ra106.toInt = 45 := congrArg Int32.toInt c123
              refine lv_aload_n hx hb dX3_readSum_41 rfl (lv_at hl 2 rfl) ?_
              refine va_get (D := (dC, dI)) (ci := 3) (v := .ref h1) (C := RX3) (T := TX3) (N := 3) hx hb hts (fun _ h => List.mem_cons_of_mem _ (List.mem_append_left _ (List.mem_append_right _ h))) hown hK hP 0 rfl rfl 0 (by decide) (hts (.fieldLink RX3 19 "LeftArguments$LawReader" "tape" "LLeftArguments$Tape;") (List.mem_cons_of_mem _ (List.mem_append_left _ (List.mem_append_left _ (List.mem_of_getElem? (i := 2) rfl))))) (fun _ h9 => h9) rfl dX3_readSum_42 ?_
              have hPc := hP.sub (ws' := (wd_09b0abee h1 h2 v1 x107 x95 x96)) [1] rfl
              have hDc := hD.sub (ws' := (wd_09b0abee h1 h2 v1 x107 x95 x96)) [1] (by decide) rfl
              have hKc := hK.sub (tys' := []) [] rfl
              have hFc := va_free (wc := (wd_09b0abee h1 h2 v1 x107 x95 x96)) hD hS hA [1] rfl
              refine va_callv (va_runV (As := []) (rest := []) ⟨hx, hb, hml, hown, hts⟩ (k_X10_step l dC dI h1 h2 v1 x107 x95 x96 ⟨by first | omega | decide, by first | omega | decide⟩ H.size) (cwV 0 hts g_X3_readSum_5_2 rfl rfl rfl (by decide +kernel) ⟨Nat.le_of_ble_eq_true rfl, Nat.le_of_ble_eq_true rfl⟩) ⟨fun a U g mk q => by obtain ⟨q0, q1, qP, qK, qD⟩ := q; exact ⟨q0, q1, qP, va_K.moved (u := U) (U := U.calling g mk a) (Vm.Alike.refl U.vm) qK, qD⟩, va_recv hKc hPc (ci := 10) (q0 := 0) rfl rfl, fun U hU hW => ⟨rfl, by rw [hU], by rw [hU]; exact hPc, va_K.moved hW.alike hKc, hDc.weaken (fun _ _ _ _ => trivial)⟩⟩ rfl rfl hl.1 rfl (lv_room (Nat.le_of_ble_eq_true rfl)) dX3_readSum_45 ⟨Nat.le_of_ble_eq_true rfl, Nat.le_of_ble_eq_true rfl⟩) hS (fun q _ h => hFc q h) hFc (fun u t H1 locs ht hvm hwra124 hB hz1 hk1 hS => ?_)
              obtain ⟨x125, hP1, hK1, hD1⟩ := hB
              rw [ht] at hP1
              obtain ⟨hP, hD⟩ := va_join (wr := (wd_6b0d8e05 h0 h1 h3 x93 h2 g0 f5 h3 g1 fn97)) (w1 := (wd_09b0abee h1 h2 v1 x125 x95 x96)) hP hD [1] [0, 2, 3] rfl rfl (by decide) (by decide) hk1 hFc hP1 hD1
              generalize H1 = H at hP hS ⊢
              have hP := hP.sub (ws' := (wd_1ad0248d h0 h1 h3 x93 h1 h2 v1 x125 x95 x96 h2 g0 f5 h3 g1 fn97)) [0, 3, 1, 2] rfl
              have hD := hD.sub (ws' := (wd_1ad0248d h0 h1 h3 x93 h1 h2 v1 x125 x95 x96 h2 g0 f5 h3 g1 fn97)) [0, 3, 1, 2] (by decide) rfl
              have hP : va_P (dC, dI) vwCl (wd_1ad0248d h0 h1 h3 x93 h1 h2 v1 x125 x95 x96 h2 g0 f5 h3 g1 fn97) H := hP
              have hD : va_D A (wd_1ad0248d h0 h1 h3 x93 h1 h2 v1 x125 x95 x96 h2 g0 f5 h3 g1 fn97) := hD
              refine lv_aload_n hx hb dX3_readSum_48 rfl (lv_at hl 2 rfl) ?_
              refine lv_iload_n hx hb dX3_readSum_49 rfl (lv_at hl 3 rfl) ?_
              have hPc := hP.sub (ws' := (wd_1ad0248d h0 h1 h3 x93 h1 h2 v1 x125 x95 x96 h2 g0 f5 h3 g1 fn97)) [0, 1, 2, 3] rfl
              have hDc := hD.sub (ws' := (wd_1ad0248d h0 h1 h3 x93 h1 h2 v1 x125 x95 x96 h2 g0 f5 h3 g1 fn97)) [0, 1, 2, 3] (by decide) rfl
              have hKc := hK.sub (tys' := [(g0, .int), (g1, .int)]) [0, 1] rfl
              have hFc := va_free (wc := (wd_1ad0248d h0 h1 h3 x93 h1 h2 v1 x125 x95 x96 h2 g0 f5 h3 g1 fn97)) hD hS hA [0, 1, 2, 3] rfl
              refine va_calli (va_runV (As := [.int 1]) (rest := []) ⟨hx, hb, hml, hown, hts⟩ (k_X3_readTerm_5 l dC dI adK adV h0 h1 h2 h3 x93 v1 x125 x95 x96 g0 f5 g1 fn97 ⟨by first | omega | decide, by first | omega | decide⟩ ⟨by first | omega | decide, by first | omega | decide⟩ H.size) (cwV 1 hts g_X3_readSum_5_0 rfl rfl rfl (by decide +kernel) ⟨Nat.le_of_ble_eq_true rfl, Nat.le_of_ble_eq_true rfl⟩) ⟨fun a U g mk q => by obtain ⟨q0, q1, qP, qK, qD, n0, n1, n2⟩ := q; exact ⟨q0, q1, qP, va_K.moved (u := U) (U := U.calling g mk a) (Vm.Alike.refl U.vm) qK, qD, vk_R.same rfl n0, va_Z.moved (Vm.Alike.refl _) n1, vk_S.moved (Vm.Alike.refl _) n2⟩, va_recv hKc hPc (ci := 3) (q0 := 0) rfl rfl, fun U hU hW => ⟨rfl, by rw [hU], by rw [hU]; exact hPc, va_K.moved hW.alike hKc, hDc.weaken (fun _ _ _ _ => trivial), vk_R.warm hW h_vr_2, (by rw [hU]; exact (va_Z.moved hW.alike (va_Z.kept h_st_CS hS.2.1)).narrow hFc), (by rw [hU]; exact (vk_S.moved hW.alike (vk_S.kept h_st_S hS.2.1)).narrow hFc)⟩⟩ rfl rfl hl.1 rfl (lv_room (Nat.le_of_ble_eq_true rfl)) dX3_readSum_50 ⟨Nat.le_of_ble_eq_true rfl, Nat.le_of_ble_eq_true rfl⟩) hS (fun q _ h => hFc q h) hFc (fun ra126 u t H1 locs ht hvm hwra126 hB hz1 hk1 hS => ?_)
              obtain ⟨x127, x128, x129, x130, fn131, oa_x127, ob_x127, hP1, hK1, hD1⟩ := hB
              rw [ht] at hP1
              obtain ⟨hP, hD⟩ := va_join (wr := []) (w1 := (wd_1ad0248d h0 h1 h3 x127 h1 h2 v1 x128 x129 x130 h2 g0 f5 h3 g1 fn131)) hP hD [0, 1, 2, 3] [] rfl rfl (by decide) (by decide) hk1 hFc hP1 hD1
              generalize H1 = H at hP hS ⊢
              have hP : va_P (dC, dI) vwCl (wd_1ad0248d h0 h1 h3 x127 h1 h2 v1 x128 x129 x130 h2 g0 f5 h3 g1 fn131) H := hP
              have hD : va_D A (wd_1ad0248d h0 h1 h3 x127 h1 h2 v1 x128 x129 x130 h2 g0 f5 h3 g1 fn131) := hD
              obtain ⟨wa_ra126, wb_ra126⟩ := hwra126
              have wa_ra126 : 0 ≤ ra126.toInt := wa_ra126
              have wb_ra126 : ra126.toInt ≤ 1 := wb_ra126
              refine lv_if_ne (tgt := 58) hx hb dX3_readSum_53 (by decide) (fun c132 => ?_) (fun c132 => ?_)
              · skip
                have fc132 : ¬ (ra126.toInt = 0) := fun h9 => c132 (Int32.toInt_inj.mp h9)
                refine lv_aload_n hx hb dX3_readSum_58 rfl (lv_at hl 2 rfl) ?_
                refine lv_iload_n hx hb dX3_readSum_59 rfl (lv_at hl 0 rfl) ?_
                refine lv_bipush (v := 43) hx hb dX3_readSum_60 (by decide) ?_
                refine lv_icmp_ne (tgt := 69) hx hb dX3_readSum_62 (by decide) (fun _ => ?_) (fun c133 => by exfalso; have fc133 : ra106.toInt = 43 := congrArg Int32.toInt c133; omega)
                refine lv_iconst (v := 3) hx hb dX3_readSum_69 (by decide) ?_
                refine lv_iconst (v := 0) hx hb dX3_readSum_70 (by decide) ?_
                have hPc := hP.sub (ws' := (wd_b958b9da h0 h1 h3 x127 h3 g1 fn131)) [0, 3] rfl
                have hDc := hD.sub (ws' := (wd_b958b9da h0 h1 h3 x127 h3 g1 fn131)) [0, 3] (by decide) rfl
                have hKc := hK.sub (tys' := [(g1, .int)]) [1] rfl
                have hFc := va_free (wc := (wd_b958b9da h0 h1 h3 x127 h3 g1 fn131)) hD hS hA [0, 3] rfl
                refine va_callv (va_runV (As := [.int 3, .int 0]) (rest := []) ⟨hx, hb, hml, hown, hts⟩ (k_X3_write l dC dI h0 h3 h1 x127 g1 fn131 3 0 ⟨by first | omega | decide, by first | omega | decide⟩ H.size) (cwV 2 hts g_X3_readSum_5_4 rfl rfl rfl (by decide +kernel) ⟨Nat.le_of_ble_eq_true rfl, Nat.le_of_ble_eq_true rfl⟩) ⟨fun a U g mk q => by obtain ⟨q0, q1, qP, qK, qD⟩ := q; exact ⟨q0, q1, qP, va_K.moved (u := U) (U := U.calling g mk a) (Vm.Alike.refl U.vm) qK, qD⟩, va_recv hKc hPc (ci := 3) (q0 := 0) rfl rfl, fun U hU hW => ⟨rfl, by rw [hU], by rw [hU]; exact hPc, va_K.moved hW.alike hKc, hDc.weaken (fun _ _ _ _ => trivial)⟩⟩ rfl rfl hl.1 rfl (lv_room (Nat.le_of_ble_eq_true rfl)) dX3_readSum_71 ⟨Nat.le_of_ble_eq_true rfl, Nat.le_of_ble_eq_true rfl⟩) hS (fun q _ h => hFc q h) hFc (fun u t H1 locs ht hvm hwra134 hB hz1 hk1 hS => ?_)
                obtain ⟨x135, fn136, oa_x135, ob_x135, hP1, hK1, hD1⟩ := hB
                rw [ht] at hP1
                obtain ⟨hP, hD⟩ := va_join (wr := (wd_82cdd16b h1 h2 v1 x128 x129 x130 h2 g0 f5)) (w1 := (wd_b958b9da h0 h1 h3 x135 h3 g1 fn136)) hP hD [0, 3] [1, 2] rfl rfl (by decide) (by decide) hk1 hFc hP1 hD1
                generalize H1 = H at hP hS ⊢
                have hP := hP.sub (ws' := (wd_1ad0248d h0 h1 h3 x135 h1 h2 v1 x128 x129 x130 h2 g0 f5 h3 g1 fn136)) [2, 0, 1, 3] rfl
                have hD := hD.sub (ws' := (wd_1ad0248d h0 h1 h3 x135 h1 h2 v1 x128 x129 x130 h2 g0 f5 h3 g1 fn136)) [2, 0, 1, 3] (by decide) rfl
                have hP : va_P (dC, dI) vwCl (wd_1ad0248d h0 h1 h3 x135 h1 h2 v1 x128 x129 x130 h2 g0 f5 h3 g1 fn136) H := hP
                have hD : va_D A (wd_1ad0248d h0 h1 h3 x135 h1 h2 v1 x128 x129 x130 h2 g0 f5 h3 g1 fn136) := hD
                obtain ⟨t137, et137⟩ : ∃ y : Int32, y = x92 + 1 := ⟨_, rfl⟩
                have gt137 : t137.toInt = x92.toInt + (1) := pv_add (a := x92.toInt) (b := (1)) et137 rfl (by decide) (by omega) (by omega)
                refine lv_iinc (v := t137) (lv' := [(2, .int t137), (3, .int ra106), (0, .ref h0), (1, .int 1)]) hx hb dX3_readSum_74 hl (k := 1) rfl (by rw [et137]; rfl) (by decide) rfl (fun ls hl => ?_)
                refine lv_goto (tgt := 12) hx hb dX3_readSum_77 (by decide) ?_
                exact ih_hL104 t137 x135 x128 x129 x130 fn136 H locs ls (by first | omega | decide) (by first | omega | decide) (by first | omega | decide) (by first | omega | decide) (by first | omega | (simp only [Int.toNat] at *; omega)) hP hD hS (lv_sub hl [0, 2, 3] rfl)
              · skip
                have fc132 : ra126.toInt = 0 := congrArg Int32.toInt c132
                refine lv_iconst (v := 0) hx hb dX3_readSum_56 (by decide) ?_
                subst hQ
                have hP9 := hP.sub (ws' := (wd_1ad0248d h0 h1 h3 x127 h1 h2 v1 x128 x129 x130 h2 g0 f5 h3 g1 fn131)) [0, 1, 2, 3] rfl
                have hD9 := hD.sub (ws' := (wd_1ad0248d h0 h1 h3 x127 h1 h2 v1 x128 x129 x130 h2 g0 f5 h3 g1 fn131)) [0, 1, 2, 3] (by decide) rfl
                have hK9 := hK.sub (tys' := []) [] rfl
                exact W.zret (v := 0) hx hb hr rfl (fun t ht hW => ⟨⟨0, (), rfl, ⟨by first | omega | decide, by first | omega | decide⟩, x127, x128, x129, x130, fn131, by first | omega | decide, by first | omega | decide, by rw [ht]; exact hP9, va_K.moved hW.alike hK9, hD9⟩, hS.F ht⟩) hS.2.2 dX3_readSum_57
            · skip
              have fc123 : ¬ (ra106.toInt = 45) := fun h9 => c123 (Int32.toInt_inj.mp h9)
              refine lv_iconst (v := 1) hx hb dX3_readSum_39 (by decide) ?_
              subst hQ
              have hP9 := hP.sub (ws' := (wd_1ad0248d h0 h1 h3 x93 h1 h2 v1 x107 x95 x96 h2 g0 f5 h3 g1 fn97)) [0, 1, 2, 3] rfl
              have hD9 := hD.sub (ws' := (wd_1ad0248d h0 h1 h3 x93 h1 h2 v1 x107 x95 x96 h2 g0 f5 h3 g1 fn97)) [0, 1, 2, 3] (by decide) rfl
              have hK9 := hK.sub (tys' := []) [] rfl
              exact W.zret (v := 1) hx hb hr rfl (fun t ht hW => ⟨⟨1, (), rfl, ⟨by first | omega | decide, by first | omega | decide⟩, x93, x107, x95, x96, fn97, by first | omega | decide, by first | omega | decide, by rw [ht]; exact hP9, va_K.moved hW.alike hK9, hD9⟩, hS.F ht⟩) hS.2.2 dX3_readSum_40
    exact hL104 _ 0 x2 x3 x4 x5 fn6 H locs ls (by first | omega | decide) (by first | omega | decide) (by first | omega | decide) (by first | omega | decide) (Nat.lt_succ_self _) hP hD hS (lv_sub hl [0, 1, 2] rfl)
  · skip
    have fc7 : ra1.toInt = 0 := congrArg Int32.toInt c7
    refine lv_iconst (v := 0) hx hb dX3_readSum_8 (by decide) ?_
    subst hQ
    have hP9 := hP.sub (ws' := (wd_1ad0248d h0 h1 h3 x2 h1 h2 v1 x3 x4 x5 h2 g0 f5 h3 g1 fn6)) [0, 1, 2, 3] rfl
    have hD9 := hD.sub (ws' := (wd_1ad0248d h0 h1 h3 x2 h1 h2 v1 x3 x4 x5 h2 g0 f5 h3 g1 fn6)) [0, 1, 2, 3] (by decide) rfl
    have hK9 := hK.sub (tys' := []) [] rfl
    exact W.zret (v := 0) hx hb hr rfl (fun t ht hW => ⟨⟨0, (), rfl, ⟨by first | omega | decide, by first | omega | decide⟩, x2, x3, x4, x5, fn6, by first | omega | decide, by first | omega | decide, by rw [ht]; exact hP9, va_K.moved hW.alike hK9, hD9⟩, hS.F ht⟩) hS.2.2 dX3_readSum_9
def q_X3_readAtom_6 : List Cond := .code yX3_readAtom cX3_readAtom 4 (some .boolean) :: (([.fieldLink RX3 19 "LeftArguments$LawReader" "tape" "LLeftArguments$Tape;", .code yX10_next cX10_next 1 (some .int), .fieldLink RX10 19 "LeftArguments$Tape" "at" "I", .fieldLink RX10 15 "LeftArguments$Tape" "used" "I", .fieldLink RX10 9 "LeftArguments$Tape" "bytes" "[I", .initialized RX10, .instanceMethod yX10_next, .selects RX10 yX10_next yX10_next, .methodLink RX3 48 yX10_next, .code yX10_isDigit cX10_isDigit 1 (some .boolean), .static yX10_isDigit, .methodLink RX3 92 yX10_isDigit, .code yX10_step cX10_step 1 none, .instanceMethod yX10_step, .selects RX10 yX10_step yX10_step, .methodLink RX3 77 yX10_step, .code yX3_write cX3_write 3 none, .fieldLink RX3 15 "LeftArguments$LawReader" "used" "I", .fieldLink RX3 11 "LeftArguments$LawReader" "code" "[I", .initialized RX3, .instanceMethod yX3_write, .selects RX3 yX3_write yX3_write, .methodLink RX3 66 yX3_write, .code yX10_wrongHere cX10_wrongHere 1 (some .boolean), .fieldLink RX10 22 "LeftArguments$Tape" "wrongAt" "I", .instanceMethod yX10_wrongHere, .selects RX10 yX10_wrongHere yX10_wrongHere, .methodLink RX3 83 yX10_wrongHere, .code yJ0_indexOf_0f7a4 cJ0_indexOf_0f7a4 2 (some .int), .code yJ0_indexOf_7cf53 cJ0_indexOf_7cf53 3 (some .int), .code yJ0_isLatin1_aae02 cJ0_isLatin1_aae02 1 (some .boolean), .fieldLink RJ0 38 "java/lang/String" "COMPACT_STRINGS" "Z", .fieldLink RJ0 15 "java/lang/String" "coder" "B", .initialized RJ0, .instanceMethod yJ0_isLatin1_aae02, .selects RJ0 yJ0_isLatin1_aae02 yJ0_isLatin1_aae02, .methodLink RJ0 492 yJ0_isLatin1_aae02, .fieldLink RJ0 9 "java/lang/String" "value" "[B", .code yJ0_length_8abf5 cJ0_length_8abf5 1 (some .int), .code yJ0_coder_7d493 cJ0_coder_7d493 1 (some .byte), .instanceMethod yJ0_coder_7d493, .selects RJ0 yJ0_coder_7d493 yJ0_coder_7d493, .methodLink RJ0 335 yJ0_coder_7d493, .instanceMethod yJ0_length_8abf5, .selects RJ0 yJ0_length_8abf5 yJ0_length_8abf5, .methodLink RJ0 505 yJ0_length_8abf5, .code yJ1_indexOf_4cfef cJ1_indexOf_4cfef 4 (some .int), .code yJ1_canEncode_9a6ad cJ1_canEncode_9a6ad 1 (some .boolean), .initialized RJ1, .static yJ1_canEncode_9a6ad, .methodLink RJ1 88 yJ1_canEncode_9a6ad, .methodLink RJ1 92 Lib.Math.max.name, .static Lib.Math.max.name, .initialized "java/lang/Math", .code Lib.Math.max.name Lib.Math.max.code 2 (some .int), .methodLink RJ1 38 Lib.Math.min.name, .static Lib.Math.min.name, .code Lib.Math.min.name Lib.Math.min.code 2 (some .int), .code yJ1_indexOfChar_4cfef cJ1_indexOfChar_4cfef 6 (some .int), .static yJ1_indexOfChar_4cfef, .methodLink RJ1 95 yJ1_indexOfChar_4cfef, .static yJ1_indexOf_4cfef, .methodLink RJ0 637 yJ1_indexOf_4cfef, .instanceMethod yJ0_indexOf_7cf53, .selects RJ0 yJ0_indexOf_7cf53 yJ0_indexOf_7cf53, .methodLink RJ0 633 yJ0_indexOf_7cf53, .instanceMethod yJ0_indexOf_0f7a4, .selects RJ0 yJ0_indexOf_0f7a4 yJ0_indexOf_0f7a4, .methodLink RX3 103 yJ0_indexOf_0f7a4, .code yX10_takeNumber cX10_takeNumber 3 (some .boolean), .methodLink RX10 37 yX10_next, .methodLink RX10 45 yX10_isDigit, .fieldLink RX10 25 "LeftArguments$Tape" "number" "I", .code yX10_sign cX10_sign 1 (some .int), .instanceMethod yX10_sign, .selects RX10 yX10_sign yX10_sign, .methodLink RX10 49 yX10_sign, .methodLink RX10 41 yX10_wrongHere, .instanceMethod yX10_takeNumber, .selects RX10 yX10_takeNumber yX10_takeNumber, .methodLink RX3 95 yX10_takeNumber, .code yX10_number cX10_number 1 (some .int), .instanceMethod yX10_number, .selects RX10 yX10_number yX10_number, .methodLink RX3 98 yX10_number, .code yX3_readSum cX3_readSum 4 (some .boolean), .code yX3_readTerm cX3_readTerm 4 (some .boolean), .code yX3_readAtom cX3_readAtom 4 (some .boolean), .instanceMethod yX3_readAtom, .selects RX3 yX3_readAtom yX3_readAtom, .methodLink RX3 89 yX3_readAtom, .instanceMethod yX3_readTerm, .selects RX3 yX3_readTerm yX3_readTerm, .methodLink RX3 86 yX3_readTerm, .instanceMethod yX3_readSum, .selects RX3 yX3_readSum yX3_readSum, .methodLink RX3 59 yX3_readSum, .code yX10_take cX10_take 2 (some .boolean), .instanceMethod yX10_take, .selects RX10 yX10_take yX10_take, .methodLink RX3 51 yX10_take] : List Cond) ++ wsX30 ++ wsX100)
set_option maxRecDepth 20000 in
theorem g_X3_readAtom_6_0 : GoodIn q_X3_readAtom_6 (wsV RX3 48 RX10 yX10_next q_X10_next) := goodIn_app (goodIn_r _ [9, 7, 8, 6] rfl (by decide +kernel)) (goodIn_ca (goodIn_r (.code yX10_next cX10_next 1 (some .int) :: [.fieldLink RX10 19 "LeftArguments$Tape" "at" "I", .fieldLink RX10 15 "LeftArguments$Tape" "used" "I", .fieldLink RX10 9 "LeftArguments$Tape" "bytes" "[I"]) [2, 3, 4, 5] rfl (by decide +kernel)) (goodIn_sub (fun _ h => List.mem_cons_of_mem _ (List.mem_append_right _ h)) gwX10))
set_option maxRecDepth 20000 in
theorem g_X3_readAtom_6_1 : GoodIn q_X3_readAtom_6 (va_wsS RX3 92 yX10_isDigit q_X10_isDigit) := goodIn_app (goodIn_r _ [12, 11, 6] rfl (by decide +kernel)) (goodIn_r (.code yX10_isDigit cX10_isDigit 1 (some .boolean) :: []) [10] rfl (by decide +kernel))
set_option maxRecDepth 20000 in
theorem g_X3_readAtom_6_2 : GoodIn q_X3_readAtom_6 (wsV RX3 77 RX10 yX10_step q_X10_step) := goodIn_app (goodIn_r _ [16, 14, 15, 6] rfl (by decide +kernel)) (goodIn_ca (goodIn_r (.code yX10_step cX10_step 1 none :: [.fieldLink RX10 19 "LeftArguments$Tape" "at" "I"]) [13, 3] rfl (by decide +kernel)) (goodIn_sub (fun _ h => List.mem_cons_of_mem _ (List.mem_append_right _ h)) gwX10))
set_option maxRecDepth 20000 in
theorem g_X3_readAtom_6_3 : GoodIn q_X3_readAtom_6 (wsV RX3 66 RX3 yX3_write q_X3_write) := goodIn_app (goodIn_r _ [23, 21, 22, 20] rfl (by decide +kernel)) (goodIn_ca (goodIn_r (.code yX3_write cX3_write 3 none :: [.fieldLink RX3 15 "LeftArguments$LawReader" "used" "I", .fieldLink RX3 11 "LeftArguments$LawReader" "code" "[I"]) [17, 18, 19] rfl (by decide +kernel)) (goodIn_sub (fun _ h => List.mem_cons_of_mem _ (List.mem_append_left _ (List.mem_append_right _ h))) gwX3))
set_option maxRecDepth 20000 in
theorem g_X3_readAtom_6_4 : GoodIn q_X3_readAtom_6 (wsV RX3 83 RX10 yX10_wrongHere q_X10_wrongHere) := goodIn_app (goodIn_r _ [28, 26, 27, 6] rfl (by decide +kernel)) (goodIn_ca (goodIn_r (.code yX10_wrongHere cX10_wrongHere 1 (some .boolean) :: [.fieldLink RX10 19 "LeftArguments$Tape" "at" "I", .fieldLink RX10 22 "LeftArguments$Tape" "wrongAt" "I"]) [24, 3, 25] rfl (by decide +kernel)) (goodIn_sub (fun _ h => List.mem_cons_of_mem _ (List.mem_append_right _ h)) gwX10))
set_option maxRecDepth 20000 in
theorem g_X3_readAtom_6_5 : GoodIn q_X3_readAtom_6 (wsV RX3 103 RJ0 yJ0_indexOf_0f7a4 q_J0_indexOf_0f7a4) := goodIn_app (goodIn_r _ [69, 67, 68, 34] rfl (by decide +kernel)) (goodIn_r (.code yJ0_indexOf_0f7a4 cJ0_indexOf_0f7a4 2 (some .int) :: [.code yJ0_indexOf_7cf53 cJ0_indexOf_7cf53 3 (some .int), .code yJ0_isLatin1_aae02 cJ0_isLatin1_aae02 1 (some .boolean), .fieldLink RJ0 38 "java/lang/String" "COMPACT_STRINGS" "Z", .fieldLink RJ0 15 "java/lang/String" "coder" "B", .initialized RJ0, .instanceMethod yJ0_isLatin1_aae02, .selects RJ0 yJ0_isLatin1_aae02 yJ0_isLatin1_aae02, .methodLink RJ0 492 yJ0_isLatin1_aae02, .fieldLink RJ0 9 "java/lang/String" "value" "[B", .code yJ0_length_8abf5 cJ0_length_8abf5 1 (some .int), .code yJ0_coder_7d493 cJ0_coder_7d493 1 (some .byte), .instanceMethod yJ0_coder_7d493, .selects RJ0 yJ0_coder_7d493 yJ0_coder_7d493, .methodLink RJ0 335 yJ0_coder_7d493, .instanceMethod yJ0_length_8abf5, .selects RJ0 yJ0_length_8abf5 yJ0_length_8abf5, .methodLink RJ0 505 yJ0_length_8abf5, .code yJ1_indexOf_4cfef cJ1_indexOf_4cfef 4 (some .int), .code yJ1_canEncode_9a6ad cJ1_canEncode_9a6ad 1 (some .boolean), .initialized RJ1, .static yJ1_canEncode_9a6ad, .methodLink RJ1 88 yJ1_canEncode_9a6ad, .methodLink RJ1 92 Lib.Math.max.name, .static Lib.Math.max.name, .initialized "java/lang/Math", .code Lib.Math.max.name Lib.Math.max.code 2 (some .int), .methodLink RJ1 38 Lib.Math.min.name, .static Lib.Math.min.name, .code Lib.Math.min.name Lib.Math.min.code 2 (some .int), .code yJ1_indexOfChar_4cfef cJ1_indexOfChar_4cfef 6 (some .int), .static yJ1_indexOfChar_4cfef, .methodLink RJ1 95 yJ1_indexOfChar_4cfef, .static yJ1_indexOf_4cfef, .methodLink RJ0 637 yJ1_indexOf_4cfef, .instanceMethod yJ0_indexOf_7cf53, .selects RJ0 yJ0_indexOf_7cf53 yJ0_indexOf_7cf53, .methodLink RJ0 633 yJ0_indexOf_7cf53]) [29, 30, 31, 32, 33, 34, 35, 36, 37, 38, 39, 40, 41, 42, 43, 44, 45, 46, 47, 48, 49, 50, 51, 52, 53, 54, 55, 56, 57, 58, 59, 60, 61, 62, 63, 64, 65, 66] rfl (by decide +kernel))
set_option maxRecDepth 20000 in
theorem g_X3_readAtom_6_6 : GoodIn q_X3_readAtom_6 (wsV RX3 95 RX10 yX10_takeNumber q_X10_takeNumber) := goodIn_app (goodIn_r _ [81, 79, 80, 6] rfl (by decide +kernel)) (goodIn_ca (goodIn_r (.code yX10_takeNumber cX10_takeNumber 3 (some .boolean) :: [.code yX10_next cX10_next 1 (some .int), .fieldLink RX10 19 "LeftArguments$Tape" "at" "I", .fieldLink RX10 15 "LeftArguments$Tape" "used" "I", .fieldLink RX10 9 "LeftArguments$Tape" "bytes" "[I", .initialized RX10, .instanceMethod yX10_next, .selects RX10 yX10_next yX10_next, .methodLink RX10 37 yX10_next, .code yX10_isDigit cX10_isDigit 1 (some .boolean), .static yX10_isDigit, .methodLink RX10 45 yX10_isDigit, .fieldLink RX10 25 "LeftArguments$Tape" "number" "I", .code yX10_sign cX10_sign 1 (some .int), .instanceMethod yX10_sign, .selects RX10 yX10_sign yX10_sign, .methodLink RX10 49 yX10_sign, .code yX10_wrongHere cX10_wrongHere 1 (some .boolean), .fieldLink RX10 22 "LeftArguments$Tape" "wrongAt" "I", .instanceMethod yX10_wrongHere, .selects RX10 yX10_wrongHere yX10_wrongHere, .methodLink RX10 41 yX10_wrongHere]) [70, 2, 3, 4, 5, 6, 7, 8, 71, 10, 11, 72, 73, 74, 75, 76, 77, 24, 25, 26, 27, 78] rfl (by decide +kernel)) (goodIn_sub (fun _ h => List.mem_cons_of_mem _ (List.mem_append_right _ h)) gwX10))
set_option maxRecDepth 20000 in
theorem g_X3_readAtom_6_7 : GoodIn q_X3_readAtom_6 (wsV RX3 98 RX10 yX10_number q_X10_number) := goodIn_app (goodIn_r _ [85, 83, 84, 6] rfl (by decide +kernel)) (goodIn_ca (goodIn_r (.code yX10_number cX10_number 1 (some .int) :: [.fieldLink RX10 25 "LeftArguments$Tape" "number" "I"]) [82, 73] rfl (by decide +kernel)) (goodIn_sub (fun _ h => List.mem_cons_of_mem _ (List.mem_append_right _ h)) gwX10))
set_option maxRecDepth 20000 in
theorem g_X3_readAtom_6_10 : GoodIn q_X3_readAtom_6 (wsV RX3 59 RX3 yX3_readSum q_X3_readSum_5) := goodIn_app (goodIn_r _ [97, 95, 96, 20] rfl (by decide +kernel)) (goodIn_ca (goodIn_ca (goodIn_r (.code yX3_readSum cX3_readSum 4 (some .boolean) :: [.code yX3_readTerm cX3_readTerm 4 (some .boolean), .code yX3_readAtom cX3_readAtom 4 (some .boolean), .fieldLink RX3 19 "LeftArguments$LawReader" "tape" "LLeftArguments$Tape;", .code yX10_next cX10_next 1 (some .int), .fieldLink RX10 19 "LeftArguments$Tape" "at" "I", .fieldLink RX10 15 "LeftArguments$Tape" "used" "I", .fieldLink RX10 9 "LeftArguments$Tape" "bytes" "[I", .initialized RX10, .instanceMethod yX10_next, .selects RX10 yX10_next yX10_next, .methodLink RX3 48 yX10_next, .code yX10_isDigit cX10_isDigit 1 (some .boolean), .static yX10_isDigit, .methodLink RX3 92 yX10_isDigit, .code yX10_step cX10_step 1 none, .instanceMethod yX10_step, .selects RX10 yX10_step yX10_step, .methodLink RX3 77 yX10_step, .code yX3_write cX3_write 3 none, .fieldLink RX3 15 "LeftArguments$LawReader" "used" "I", .fieldLink RX3 11 "LeftArguments$LawReader" "code" "[I", .initialized RX3, .instanceMethod yX3_write, .selects RX3 yX3_write yX3_write, .methodLink RX3 66 yX3_write, .code yX10_wrongHere cX10_wrongHere 1 (some .boolean), .fieldLink RX10 22 "LeftArguments$Tape" "wrongAt" "I", .instanceMethod yX10_wrongHere, .selects RX10 yX10_wrongHere yX10_wrongHere, .methodLink RX3 83 yX10_wrongHere, .code yJ0_indexOf_0f7a4 cJ0_indexOf_0f7a4 2 (some .int), .code yJ0_indexOf_7cf53 cJ0_indexOf_7cf53 3 (some .int), .code yJ0_isLatin1_aae02 cJ0_isLatin1_aae02 1 (some .boolean), .fieldLink RJ0 38 "java/lang/String" "COMPACT_STRINGS" "Z", .fieldLink RJ0 15 "java/lang/String" "coder" "B", .initialized RJ0, .instanceMethod yJ0_isLatin1_aae02, .selects RJ0 yJ0_isLatin1_aae02 yJ0_isLatin1_aae02, .methodLink RJ0 492 yJ0_isLatin1_aae02, .fieldLink RJ0 9 "java/lang/String" "value" "[B", .code yJ0_length_8abf5 cJ0_length_8abf5 1 (some .int), .code yJ0_coder_7d493 cJ0_coder_7d493 1 (some .byte), .instanceMethod yJ0_coder_7d493, .selects RJ0 yJ0_coder_7d493 yJ0_coder_7d493, .methodLink RJ0 335 yJ0_coder_7d493, .instanceMethod yJ0_length_8abf5, .selects RJ0 yJ0_length_8abf5 yJ0_length_8abf5, .methodLink RJ0 505 yJ0_length_8abf5, .code yJ1_indexOf_4cfef cJ1_indexOf_4cfef 4 (some .int), .code yJ1_canEncode_9a6ad cJ1_canEncode_9a6ad 1 (some .boolean), .initialized RJ1, .static yJ1_canEncode_9a6ad, .methodLink RJ1 88 yJ1_canEncode_9a6ad, .methodLink RJ1 92 Lib.Math.max.name, .static Lib.Math.max.name, .initialized "java/lang/Math", .code Lib.Math.max.name Lib.Math.max.code 2 (some .int), .methodLink RJ1 38 Lib.Math.min.name, .static Lib.Math.min.name, .code Lib.Math.min.name Lib.Math.min.code 2 (some .int), .code yJ1_indexOfChar_4cfef cJ1_indexOfChar_4cfef 6 (some .int), .static yJ1_indexOfChar_4cfef, .methodLink RJ1 95 yJ1_indexOfChar_4cfef, .static yJ1_indexOf_4cfef, .methodLink RJ0 637 yJ1_indexOf_4cfef, .instanceMethod yJ0_indexOf_7cf53, .selects RJ0 yJ0_indexOf_7cf53 yJ0_indexOf_7cf53, .methodLink RJ0 633 yJ0_indexOf_7cf53, .instanceMethod yJ0_indexOf_0f7a4, .selects RJ0 yJ0_indexOf_0f7a4 yJ0_indexOf_0f7a4, .methodLink RX3 103 yJ0_indexOf_0f7a4, .code yX10_takeNumber cX10_takeNumber 3 (some .boolean), .methodLink RX10 37 yX10_next, .methodLink RX10 45 yX10_isDigit, .fieldLink RX10 25 "LeftArguments$Tape" "number" "I", .code yX10_sign cX10_sign 1 (some .int), .instanceMethod yX10_sign, .selects RX10 yX10_sign yX10_sign, .methodLink RX10 49 yX10_sign, .methodLink RX10 41 yX10_wrongHere, .instanceMethod yX10_takeNumber, .selects RX10 yX10_takeNumber yX10_takeNumber, .methodLink RX3 95 yX10_takeNumber, .code yX10_number cX10_number 1 (some .int), .instanceMethod yX10_number, .selects RX10 yX10_number yX10_number, .methodLink RX3 98 yX10_number, .code yX3_readSum cX3_readSum 4 (some .boolean), .instanceMethod yX3_readAtom, .selects RX3 yX3_readAtom yX3_readAtom, .methodLink RX3 89 yX3_readAtom, .instanceMethod yX3_readTerm, .selects RX3 yX3_readTerm yX3_readTerm, .methodLink RX3 86 yX3_readTerm, .instanceMethod yX3_readSum, .selects RX3 yX3_readSum yX3_readSum, .methodLink RX3 59 yX3_readSum, .code yX10_take cX10_take 2 (some .boolean), .instanceMethod yX10_take, .selects RX10 yX10_take yX10_take, .methodLink RX3 51 yX10_take]) [86, 87, 88, 1, 2, 3, 4, 5, 6, 7, 8, 9, 10, 11, 12, 13, 14, 15, 16, 17, 18, 19, 20, 21, 22, 23, 24, 25, 26, 27, 28, 29, 30, 31, 32, 33, 34, 35, 36, 37, 38, 39, 40, 41, 42, 43, 44, 45, 46, 47, 48, 49, 50, 51, 52, 53, 54, 55, 56, 57, 58, 59, 60, 61, 62, 63, 64, 65, 66, 67, 68, 69, 70, 71, 72, 73, 74, 75, 76, 77, 78, 79, 80, 81, 82, 83, 84, 85, 86, 89, 90, 91, 92, 93, 94, 95, 96, 97, 98, 99, 100, 101] rfl (by decide +kernel)) (goodIn_sub (fun _ h => List.mem_cons_of_mem _ (List.mem_append_left _ (List.mem_append_right _ h))) gwX3)) (goodIn_sub (fun _ h => List.mem_cons_of_mem _ (List.mem_append_right _ h)) gwX10))
set_option maxRecDepth 20000 in
theorem g_X3_readAtom_6_11 : GoodIn q_X3_readAtom_6 (wsV RX3 51 RX10 yX10_take q_X10_take) := goodIn_app (goodIn_r _ [101, 99, 100, 6] rfl (by decide +kernel)) (goodIn_ca (goodIn_r (.code yX10_take cX10_take 2 (some .boolean) :: [.code yX10_next cX10_next 1 (some .int), .fieldLink RX10 19 "LeftArguments$Tape" "at" "I", .fieldLink RX10 15 "LeftArguments$Tape" "used" "I", .fieldLink RX10 9 "LeftArguments$Tape" "bytes" "[I", .initialized RX10, .instanceMethod yX10_next, .selects RX10 yX10_next yX10_next, .methodLink RX10 37 yX10_next, .code yX10_wrongHere cX10_wrongHere 1 (some .boolean), .fieldLink RX10 22 "LeftArguments$Tape" "wrongAt" "I", .instanceMethod yX10_wrongHere, .selects RX10 yX10_wrongHere yX10_wrongHere, .methodLink RX10 41 yX10_wrongHere]) [98, 2, 3, 4, 5, 6, 7, 8, 71, 24, 25, 26, 27, 78] rfl (by decide +kernel)) (goodIn_sub (fun _ h => List.mem_cons_of_mem _ (List.mem_append_right _ h)) gwX10))
set_option maxHeartbeats 4000000 in
set_option maxRecDepth 100000 in
theorem k_X3_readAtom_6 (l : Launch) (dC : Nat → ClassId) (dI : Nat → Nat → Nat) (adK : Nat → Nat) (adV : Nat → Nat) (h0 : Nat) (h1 : Nat) (h2 : Nat) (h3 : Nat) (v0 : Int32) (v1 : Int32) (v2 : Int32) (v3 : Int32) (v4 : Int32) (g0 : ClassId) (f5 : Nat → Int32) (g1 : ClassId) (f6 : Nat → Int32) (i_v0 : 0 ≤ v0.toInt ∧ v0.toInt ≤ 256) (i_v1 : 0 ≤ v1.toInt ∧ v1.toInt ≤ 240) (sz : Nat) : Met l yX3_readAtom q_X3_readAtom_6 ({ frames := 22, cells := 0, slots := 0, locals := 505 }) (va_Pc [.ref h0, .int 0] (fun U => U.heap.size = sz ∧ va_P (dC, dI) vwCl (wd_1ad0248d h0 h1 h3 v0 h1 h2 v1 v2 v3 v4 h2 g0 f5 h3 g1 f6) U.heap ∧ va_K (dC, dI) vwCl [(g0, .int), (g1, .int)] U ∧ va_D (fun _ => True) (wd_1ad0248d h0 h1 h3 v0 h1 h2 v1 v2 v3 v4 h2 g0 f5 h3 g1 f6) ∧ vk_R RX3 101 "zaondt" (adK 2) U ∧ va_Z "java/lang/String" "COMPACT_STRINGS" "Z" (.int 1) (va_A (wd_1ad0248d h0 h1 h3 v0 h1 h2 v1 v2 v3 v4 h2 g0 f5 h3 g1 f6) sz) U U.heap ∧ vk_S 3 pv_len3 pv_byt3 adK adV (va_A (wd_1ad0248d h0 h1 h3 v0 h1 h2 v1 v2 v3 v4 h2 g0 f5 h3 g1 f6) sz) U U.heap)) (va_Qi (fun (r : Int32) (_ : Unit) => 0 ≤ r.toInt ∧ r.toInt ≤ 1) (fun (_ : Unit) (t : State) => ∃ (o_h0_2 : Int32) (o_h1_2 : Int32) (o_h1_3 : Int32) (o_h1_4 : Int32) (o_h3 : Nat → Int32), 0 ≤ o_h0_2.toInt ∧ o_h0_2.toInt ≤ 256 ∧ va_P (dC, dI) vwCl (wd_1ad0248d h0 h1 h3 o_h0_2 h1 h2 v1 o_h1_2 o_h1_3 o_h1_4 h2 g0 f5 h3 g1 o_h3) t.heap ∧ va_K (dC, dI) vwCl [] t ∧ va_D (va_A (wd_1ad0248d h0 h1 h3 v0 h1 h2 v1 v2 v3 v4 h2 g0 f5 h3 g1 f6) sz) (wd_1ad0248d h0 h1 h3 o_h0_2 h1 h2 v1 o_h1_2 o_h1_3 o_h1_4 h2 g0 f5 h3 g1 o_h3)) (va_A (wd_1ad0248d h0 h1 h3 v0 h1 h2 v1 v2 v3 v4 h2 g0 f5 h3 g1 f6) sz)) 0 0 (va_A (wd_1ad0248d h0 h1 h3 v0 h1 h2 v1 v2 v3 v4 h2 g0 f5 h3 g1 f6) sz) := by
  refine Met.ofW (cc := cX3_readAtom) (maxL := 4) (ret := (some .boolean)) (by decide) rfl ?_
  intro p e s m args below meth c s₁ B hml hv
  obtain ⟨i_v0a, i_v0b⟩ := i_v0
  obtain ⟨i_v1a, i_v1b⟩ := i_v1
  obtain ⟨rfl, hsz, hP, hK, hD0, h_vr_2, h_st_CS, h_st_S⟩ := hv
  have hx := B.exec
  have hb := B.bytes
  have hr := B.returns
  have hts := atoms_spec (ws := q_X3_readAtom_6) B.pre
  have hown : s.vm.findClass RX3 = some m.cls := findClass_of_methodNamed B.named
  have hlocks := B.notSynchronized
  subst hsz
  have hD := hD0.self (sz := s.heap.size)
  generalize hAe : va_A (wd_1ad0248d h0 h1 h3 v0 h1 h2 v1 v2 v3 v4 h2 g0 f5 h3 g1 f6) s.heap.size = A at hD h_st_CS h_st_S ⊢
  have hA : ∀ q : Nat, s.heap.size ≤ q → A q := fun q h => by rw [← hAe]; exact Or.inr h
  have hS : va_S A s.heap s.heap [] := va_S.rf
  generalize hQ : (MQ below _ _ s 0 0 A) = Q
  have hl := lv_entry ([.ref h0, .int 0]) (n := 4) (Nat.le_of_ble_eq_true rfl)
  rw [lg_entry_eq]
  generalize (lg_sl ([.ref h0, .int 0]) ++ List.replicate (4 - (lg_sl ([.ref h0, .int 0])).length) Slot.unset).toArray = ls at hl ⊢
  have hl : lv_has ls 4 [(0, .ref h0), (1, .int 0)] := hl
  obtain ⟨H, hH⟩ : ∃ H : Heap, H = s.heap := ⟨_, rfl⟩
  obtain ⟨locs, hlocs⟩ : ∃ y : List Loc, y = [] := ⟨_, rfl⟩
  have hS : va_S A s.heap H locs := by rw [hH, hlocs]; exact va_S.rf
  have hP : va_P (dC, dI) vwCl (wd_1ad0248d h0 h1 h3 v0 h1 h2 v1 v2 v3 v4 h2 g0 f5 h3 g1 f6) H := by rw [hH]; exact hP
  rw [← hH, ← hlocs]
  refine lv_aload_n hx hb dX3_readAtom_0 rfl (lv_at hl 0 rfl) ?_
  refine va_get (D := (dC, dI)) (ci := 3) (v := .ref h1) (C := RX3) (T := TX3) (N := 3) hx hb hts (fun _ h => List.mem_cons_of_mem _ (List.mem_append_left _ (List.mem_append_right _ h))) hown hK hP 0 rfl rfl 0 (by decide) (hts (.fieldLink RX3 19 "LeftArguments$LawReader" "tape" "LLeftArguments$Tape;") (List.mem_cons_of_mem _ (List.mem_append_left _ (List.mem_append_left _ (List.mem_of_getElem? (i := 0) rfl))))) (fun _ h9 => h9) rfl dX3_readAtom_1 ?_
  have hPc := hP.sub (ws' := (wd_82cdd16b h1 h2 v1 v2 v3 v4 h2 g0 f5)) [1, 2] rfl
  have hDc := hD.sub (ws' := (wd_82cdd16b h1 h2 v1 v2 v3 v4 h2 g0 f5)) [1, 2] (by decide) rfl
  have hKc := hK.sub (tys' := [(g0, .int)]) [0] rfl
  have hFc := va_free (wc := (wd_82cdd16b h1 h2 v1 v2 v3 v4 h2 g0 f5)) hD hS hA [1, 2] rfl
  refine va_calli (va_runV (As := []) (rest := []) ⟨hx, hb, hml, hown, hts⟩ (k_X10_next l dC dI h1 h2 v1 v2 v3 v4 g0 f5 ⟨by first | omega | decide, by first | omega | decide⟩ H.size) (cwV 0 hts g_X3_readAtom_6_0 rfl rfl rfl (by decide +kernel) ⟨Nat.le_of_ble_eq_true rfl, Nat.le_of_ble_eq_true rfl⟩) ⟨fun a U g mk q => by obtain ⟨q0, q1, qP, qK, qD⟩ := q; exact ⟨q0, q1, qP, va_K.moved (u := U) (U := U.calling g mk a) (Vm.Alike.refl U.vm) qK, qD⟩, va_recv hKc hPc (ci := 10) (q0 := 0) rfl rfl, fun U hU hW => ⟨rfl, by rw [hU], by rw [hU]; exact hPc, va_K.moved hW.alike hKc, hDc.weaken (fun _ _ _ _ => trivial)⟩⟩ rfl rfl hl.1 rfl (lv_room (Nat.le_of_ble_eq_true rfl)) dX3_readAtom_4 ⟨Nat.le_of_ble_eq_true rfl, Nat.le_of_ble_eq_true rfl⟩) hS (fun q _ h => hFc q h) hFc (fun ra1 u t H1 locs ht hvm hwra1 hB hz1 hk1 hS => ?_)
  obtain ⟨x2, hP1, hK1, hD1⟩ := hB
  rw [ht] at hP1
  obtain ⟨hP, hD⟩ := va_join (wr := (wd_b958b9da h0 h1 h3 v0 h3 g1 f6)) (w1 := (wd_82cdd16b h1 h2 v1 x2 v3 v4 h2 g0 f5)) hP hD [1, 2] [0, 3] rfl rfl (by decide) (by decide) hk1 hFc hP1 hD1
  generalize H1 = H at hP hS ⊢
  have hP := hP.sub (ws' := (wd_1ad0248d h0 h1 h3 v0 h1 h2 v1 x2 v3 v4 h2 g0 f5 h3 g1 f6)) [0, 2, 3, 1] rfl
  have hD := hD.sub (ws' := (wd_1ad0248d h0 h1 h3 v0 h1 h2 v1 x2 v3 v4 h2 g0 f5 h3 g1 f6)) [0, 2, 3, 1] (by decide) rfl
  have hP : va_P (dC, dI) vwCl (wd_1ad0248d h0 h1 h3 v0 h1 h2 v1 x2 v3 v4 h2 g0 f5 h3 g1 f6) H := hP
  have hD : va_D A (wd_1ad0248d h0 h1 h3 v0 h1 h2 v1 x2 v3 v4 h2 g0 f5 h3 g1 f6) := hD
  refine lv_istore_n (lv' := [(2, .int ra1), (0, .ref h0), (1, .int 0)]) hx hb dX3_readAtom_7 rfl hl (by decide) rfl (fun ls hl => ?_)
  refine lv_iload_n hx hb dX3_readAtom_8 rfl (lv_at hl 0 rfl) ?_
  refine lv_bipush (v := 91) hx hb dX3_readAtom_9 (by decide) ?_
  refine lv_icmp_ne (tgt := 55) hx hb dX3_readAtom_11 (by decide) (fun c3 => ?_) (fun c3 => ?_)
  · skip
    have fc3 : ¬ (ra1.toInt = 91) := fun h9 => c3 (Int32.toInt_inj.mp h9)
    refine lv_iload_n hx hb dX3_readAtom_55 rfl (lv_at hl 0 rfl) ?_
    have hPc := hP.sub (ws' := []) [] rfl
    have hDc := hD.sub (ws' := []) [] (by decide) rfl
    have hKc := hK.sub (tys' := []) [] rfl
    have hFc := va_free (wc := []) hD hS hA [] rfl
    refine va_calli (va_runS (As := [.int ra1]) (rest := []) ⟨hx, hb, hml, hown, hts⟩ (k_X10_isDigit l dC dI ra1  H.size) (va_cwS 1 hts g_X3_readAtom_6_1 rfl rfl rfl (by decide +kernel) ⟨Nat.le_of_ble_eq_true rfl, Nat.le_of_ble_eq_true rfl⟩) ⟨fun a U g mk q => by obtain ⟨q0, q1, qP, qK, qD⟩ := q; exact ⟨q0, q1, qP, va_K.moved (u := U) (U := U.calling g mk a) (Vm.Alike.refl U.vm) qK, qD⟩, fun U hU hW => ⟨rfl, by rw [hU], by rw [hU]; exact hPc, va_K.moved hW.alike hKc, hDc.weaken (fun _ _ _ _ => trivial)⟩⟩ rfl rfl hl.1 rfl (lv_room (Nat.le_of_ble_eq_true rfl)) dX3_readAtom_56 ⟨Nat.le_of_ble_eq_true rfl, Nat.le_of_ble_eq_true rfl⟩) hS (fun q _ h => hFc q h) hFc (fun ra4 u t H1 locs ht hvm hwra4 hB hz1 hk1 hS => ?_)
    obtain ⟨hP1, hK1, hD1⟩ := hB
    rw [ht] at hP1
    obtain ⟨hP, hD⟩ := va_join (wr := (wd_1ad0248d h0 h1 h3 v0 h1 h2 v1 x2 v3 v4 h2 g0 f5 h3 g1 f6)) (w1 := []) hP hD [] [0, 1, 2, 3] rfl rfl (by decide) (by decide) hk1 hFc hP1 hD1
    generalize H1 = H at hP hS ⊢
    have hP : va_P (dC, dI) vwCl (wd_1ad0248d h0 h1 h3 v0 h1 h2 v1 x2 v3 v4 h2 g0 f5 h3 g1 f6) H := hP
    have hD : va_D A (wd_1ad0248d h0 h1 h3 v0 h1 h2 v1 x2 v3 v4 h2 g0 f5 h3 g1 f6) := hD
    obtain ⟨wa_ra4, wb_ra4⟩ := hwra4
    have wa_ra4 : 0 ≤ ra4.toInt := wa_ra4
    have wb_ra4 : ra4.toInt ≤ 1 := wb_ra4
    refine lv_if_eq (tgt := 89) hx hb dX3_readAtom_59 (by decide) (fun c5 => ?_) (fun c5 => ?_)
    · skip
      have fc5 : ra4.toInt = 0 := congrArg Int32.toInt c5
      refine lv_iload_n hx hb dX3_readAtom_89 rfl (lv_at hl 0 rfl) ?_
      refine lv_iconst (v := (-1)) hx hb dX3_readAtom_90 (by decide) ?_
      have hJ7 : ∀ (x6 : Int32) (H : Heap) (locs : List Loc) (ls : Array Slot), -1 ≤ x6.toInt → x6.toInt ≤ 5 → va_P (dC, dI) vwCl (wd_1ad0248d h0 h1 h3 v0 h1 h2 v1 x2 v3 v4 h2 g0 f5 h3 g1 f6) H → va_D A (wd_1ad0248d h0 h1 h3 v0 h1 h2 v1 x2 v3 v4 h2 g0 f5 h3 g1 f6) → va_S A s.heap H locs → lv_has ls 4 [(2, .int ra1), (0, .ref h0), (1, .int 0)] → W p l e ({ frames := 22, cells := 0, slots := 0, locals := 505 }) s m ([.ref h0, .int 0] : List Value).toArray below meth c H locs 0 0 Q (F0 m 105 ls [.int x6]) := by
        intro x6 H locs ls qa_x6 qb_x6 hP hD hS hl
        refine lv_istore_n (lv' := [(3, .int x6), (2, .int ra1), (0, .ref h0), (1, .int 0)]) hx hb dX3_readAtom_105 rfl hl (by decide) rfl (fun ls hl => ?_)
        refine lv_iload_n hx hb dX3_readAtom_106 rfl (lv_at hl 0 rfl) ?_
        refine lv_if_ge (tgt := 118) hx hb dX3_readAtom_107 (by decide) (fun c8 => ?_) (fun c8 => ?_)
        · skip
          have fc8 : 0 ≤ x6.toInt := Int32.le_iff_toInt_le.mp c8
          refine lv_aload_n hx hb dX3_readAtom_118 rfl (lv_at hl 2 rfl) ?_
          refine va_get (D := (dC, dI)) (ci := 3) (v := .ref h1) (C := RX3) (T := TX3) (N := 3) hx hb hts (fun _ h => List.mem_cons_of_mem _ (List.mem_append_left _ (List.mem_append_right _ h))) hown hK hP 0 rfl rfl 0 (by decide) (hts (.fieldLink RX3 19 "LeftArguments$LawReader" "tape" "LLeftArguments$Tape;") (List.mem_cons_of_mem _ (List.mem_append_left _ (List.mem_append_left _ (List.mem_of_getElem? (i := 0) rfl))))) (fun _ h9 => h9) rfl dX3_readAtom_119 ?_
          have hPc := hP.sub (ws' := (wd_09b0abee h1 h2 v1 x2 v3 v4)) [1] rfl
          have hDc := hD.sub (ws' := (wd_09b0abee h1 h2 v1 x2 v3 v4)) [1] (by decide) rfl
          have hKc := hK.sub (tys' := []) [] rfl
          have hFc := va_free (wc := (wd_09b0abee h1 h2 v1 x2 v3 v4)) hD hS hA [1] rfl
          refine va_callv (va_runV (As := []) (rest := []) ⟨hx, hb, hml, hown, hts⟩ (k_X10_step l dC dI h1 h2 v1 x2 v3 v4 ⟨by first | omega | decide, by first | omega | decide⟩ H.size) (cwV 0 hts g_X3_readAtom_6_2 rfl rfl rfl (by decide +kernel) ⟨Nat.le_of_ble_eq_true rfl, Nat.le_of_ble_eq_true rfl⟩) ⟨fun a U g mk q => by obtain ⟨q0, q1, qP, qK, qD⟩ := q; exact ⟨q0, q1, qP, va_K.moved (u := U) (U := U.calling g mk a) (Vm.Alike.refl U.vm) qK, qD⟩, va_recv hKc hPc (ci := 10) (q0 := 0) rfl rfl, fun U hU hW => ⟨rfl, by rw [hU], by rw [hU]; exact hPc, va_K.moved hW.alike hKc, hDc.weaken (fun _ _ _ _ => trivial)⟩⟩ rfl rfl hl.1 rfl (lv_room (Nat.le_of_ble_eq_true rfl)) dX3_readAtom_122 ⟨Nat.le_of_ble_eq_true rfl, Nat.le_of_ble_eq_true rfl⟩) hS (fun q _ h => hFc q h) hFc (fun u t H1 locs ht hvm hwra9 hB hz1 hk1 hS => ?_)
          obtain ⟨x10, hP1, hK1, hD1⟩ := hB
          rw [ht] at hP1
          obtain ⟨hP, hD⟩ := va_join (wr := (wd_6b0d8e05 h0 h1 h3 v0 h2 g0 f5 h3 g1 f6)) (w1 := (wd_09b0abee h1 h2 v1 x10 v3 v4)) hP hD [1] [0, 2, 3] rfl rfl (by decide) (by decide) hk1 hFc hP1 hD1
          generalize H1 = H at hP hS ⊢
          have hP := hP.sub (ws' := (wd_1ad0248d h0 h1 h3 v0 h1 h2 v1 x10 v3 v4 h2 g0 f5 h3 g1 f6)) [0, 3, 1, 2] rfl
          have hD := hD.sub (ws' := (wd_1ad0248d h0 h1 h3 v0 h1 h2 v1 x10 v3 v4 h2 g0 f5 h3 g1 f6)) [0, 3, 1, 2] (by decide) rfl
          have hP : va_P (dC, dI) vwCl (wd_1ad0248d h0 h1 h3 v0 h1 h2 v1 x10 v3 v4 h2 g0 f5 h3 g1 f6) H := hP
          have hD : va_D A (wd_1ad0248d h0 h1 h3 v0 h1 h2 v1 x10 v3 v4 h2 g0 f5 h3 g1 f6) := hD
          refine lv_aload_n hx hb dX3_readAtom_125 rfl (lv_at hl 2 rfl) ?_
          refine lv_iconst (v := 1) hx hb dX3_readAtom_126 (by decide) ?_
          refine lv_iload_n hx hb dX3_readAtom_127 rfl (lv_at hl 0 rfl) ?_
          have hPc := hP.sub (ws' := (wd_b958b9da h0 h1 h3 v0 h3 g1 f6)) [0, 3] rfl
          have hDc := hD.sub (ws' := (wd_b958b9da h0 h1 h3 v0 h3 g1 f6)) [0, 3] (by decide) rfl
          have hKc := hK.sub (tys' := [(g1, .int)]) [1] rfl
          have hFc := va_free (wc := (wd_b958b9da h0 h1 h3 v0 h3 g1 f6)) hD hS hA [0, 3] rfl
          refine va_callv (va_runV (As := [.int 1, .int x6]) (rest := []) ⟨hx, hb, hml, hown, hts⟩ (k_X3_write l dC dI h0 h3 h1 v0 g1 f6 1 x6 ⟨by first | omega | decide, by first | omega | decide⟩ H.size) (cwV 2 hts g_X3_readAtom_6_3 rfl rfl rfl (by decide +kernel) ⟨Nat.le_of_ble_eq_true rfl, Nat.le_of_ble_eq_true rfl⟩) ⟨fun a U g mk q => by obtain ⟨q0, q1, qP, qK, qD⟩ := q; exact ⟨q0, q1, qP, va_K.moved (u := U) (U := U.calling g mk a) (Vm.Alike.refl U.vm) qK, qD⟩, va_recv hKc hPc (ci := 3) (q0 := 0) rfl rfl, fun U hU hW => ⟨rfl, by rw [hU], by rw [hU]; exact hPc, va_K.moved hW.alike hKc, hDc.weaken (fun _ _ _ _ => trivial)⟩⟩ rfl rfl hl.1 rfl (lv_room (Nat.le_of_ble_eq_true rfl)) dX3_readAtom_128 ⟨Nat.le_of_ble_eq_true rfl, Nat.le_of_ble_eq_true rfl⟩) hS (fun q _ h => hFc q h) hFc (fun u t H1 locs ht hvm hwra11 hB hz1 hk1 hS => ?_)
          obtain ⟨x12, fn13, oa_x12, ob_x12, hP1, hK1, hD1⟩ := hB
          rw [ht] at hP1
          obtain ⟨hP, hD⟩ := va_join (wr := (wd_82cdd16b h1 h2 v1 x10 v3 v4 h2 g0 f5)) (w1 := (wd_b958b9da h0 h1 h3 x12 h3 g1 fn13)) hP hD [0, 3] [1, 2] rfl rfl (by decide) (by decide) hk1 hFc hP1 hD1
          generalize H1 = H at hP hS ⊢
          have hP := hP.sub (ws' := (wd_1ad0248d h0 h1 h3 x12 h1 h2 v1 x10 v3 v4 h2 g0 f5 h3 g1 fn13)) [2, 0, 1, 3] rfl
          have hD := hD.sub (ws' := (wd_1ad0248d h0 h1 h3 x12 h1 h2 v1 x10 v3 v4 h2 g0 f5 h3 g1 fn13)) [2, 0, 1, 3] (by decide) rfl
          have hP : va_P (dC, dI) vwCl (wd_1ad0248d h0 h1 h3 x12 h1 h2 v1 x10 v3 v4 h2 g0 f5 h3 g1 fn13) H := hP
          have hD : va_D A (wd_1ad0248d h0 h1 h3 x12 h1 h2 v1 x10 v3 v4 h2 g0 f5 h3 g1 fn13) := hD
          refine lv_iconst (v := 1) hx hb dX3_readAtom_131 (by decide) ?_
          subst hQ
          have hP9 := hP.sub (ws' := (wd_1ad0248d h0 h1 h3 x12 h1 h2 v1 x10 v3 v4 h2 g0 f5 h3 g1 fn13)) [0, 1, 2, 3] rfl
          have hD9 := hD.sub (ws' := (wd_1ad0248d h0 h1 h3 x12 h1 h2 v1 x10 v3 v4 h2 g0 f5 h3 g1 fn13)) [0, 1, 2, 3] (by decide) rfl
          have hK9 := hK.sub (tys' := []) [] rfl
          exact W.zret (v := 1) hx hb hr rfl (fun t ht hW => ⟨⟨1, (), rfl, ⟨by first | omega | decide, by first | omega | decide⟩, x12, x10, v3, v4, fn13, by first | omega | decide, by first | omega | decide, by rw [ht]; exact hP9, va_K.moved hW.alike hK9, hD9⟩, hS.F ht⟩) hS.2.2 dX3_readAtom_132
        · skip
          have fc8 : ¬ (0 ≤ x6.toInt) := fun h9 => c8 (Int32.le_iff_toInt_le.mpr h9)
          refine lv_aload_n hx hb dX3_readAtom_110 rfl (lv_at hl 2 rfl) ?_
          refine va_get (D := (dC, dI)) (ci := 3) (v := .ref h1) (C := RX3) (T := TX3) (N := 3) hx hb hts (fun _ h => List.mem_cons_of_mem _ (List.mem_append_left _ (List.mem_append_right _ h))) hown hK hP 0 rfl rfl 0 (by decide) (hts (.fieldLink RX3 19 "LeftArguments$LawReader" "tape" "LLeftArguments$Tape;") (List.mem_cons_of_mem _ (List.mem_append_left _ (List.mem_append_left _ (List.mem_of_getElem? (i := 0) rfl))))) (fun _ h9 => h9) rfl dX3_readAtom_111 ?_
          have hPc := hP.sub (ws' := (wd_09b0abee h1 h2 v1 x2 v3 v4)) [1] rfl
          have hDc := hD.sub (ws' := (wd_09b0abee h1 h2 v1 x2 v3 v4)) [1] (by decide) rfl
          have hKc := hK.sub (tys' := []) [] rfl
          have hFc := va_free (wc := (wd_09b0abee h1 h2 v1 x2 v3 v4)) hD hS hA [1] rfl
          refine va_calli (va_runV (As := []) (rest := []) ⟨hx, hb, hml, hown, hts⟩ (k_X10_wrongHere l dC dI h1 h2 v1 x2 v3 v4 ⟨by first | omega | decide, by first | omega | decide⟩ H.size) (cwV 0 hts g_X3_readAtom_6_4 rfl rfl rfl (by decide +kernel) ⟨Nat.le_of_ble_eq_true rfl, Nat.le_of_ble_eq_true rfl⟩) ⟨fun a U g mk q => by obtain ⟨q0, q1, qP, qK, qD⟩ := q; exact ⟨q0, q1, qP, va_K.moved (u := U) (U := U.calling g mk a) (Vm.Alike.refl U.vm) qK, qD⟩, va_recv hKc hPc (ci := 10) (q0 := 0) rfl rfl, fun U hU hW => ⟨rfl, by rw [hU], by rw [hU]; exact hPc, va_K.moved hW.alike hKc, hDc.weaken (fun _ _ _ _ => trivial)⟩⟩ rfl rfl hl.1 rfl (lv_room (Nat.le_of_ble_eq_true rfl)) dX3_readAtom_114 ⟨Nat.le_of_ble_eq_true rfl, Nat.le_of_ble_eq_true rfl⟩) hS (fun q _ h => hFc q h) hFc (fun ra14 u t H1 locs ht hvm hwra14 hB hz1 hk1 hS => ?_)
          obtain ⟨x15, hP1, hK1, hD1⟩ := hB
          rw [ht] at hP1
          obtain ⟨hP, hD⟩ := va_join (wr := (wd_6b0d8e05 h0 h1 h3 v0 h2 g0 f5 h3 g1 f6)) (w1 := (wd_09b0abee h1 h2 v1 x2 x15 v4)) hP hD [1] [0, 2, 3] rfl rfl (by decide) (by decide) hk1 hFc hP1 hD1
          generalize H1 = H at hP hS ⊢
          have hP := hP.sub (ws' := (wd_1ad0248d h0 h1 h3 v0 h1 h2 v1 x2 x15 v4 h2 g0 f5 h3 g1 f6)) [0, 3, 1, 2] rfl
          have hD := hD.sub (ws' := (wd_1ad0248d h0 h1 h3 v0 h1 h2 v1 x2 x15 v4 h2 g0 f5 h3 g1 f6)) [0, 3, 1, 2] (by decide) rfl
          have hP : va_P (dC, dI) vwCl (wd_1ad0248d h0 h1 h3 v0 h1 h2 v1 x2 x15 v4 h2 g0 f5 h3 g1 f6) H := hP
          have hD : va_D A (wd_1ad0248d h0 h1 h3 v0 h1 h2 v1 x2 x15 v4 h2 g0 f5 h3 g1 f6) := hD
          obtain ⟨wa_ra14, wb_ra14⟩ := hwra14
          have wa_ra14 : 0 ≤ ra14.toInt := wa_ra14
          have wb_ra14 : ra14.toInt ≤ 0 := wb_ra14
          subst hQ
          have hP9 := hP.sub (ws' := (wd_1ad0248d h0 h1 h3 v0 h1 h2 v1 x2 x15 v4 h2 g0 f5 h3 g1 f6)) [0, 1, 2, 3] rfl
          have hD9 := hD.sub (ws' := (wd_1ad0248d h0 h1 h3 v0 h1 h2 v1 x2 x15 v4 h2 g0 f5 h3 g1 f6)) [0, 1, 2, 3] (by decide) rfl
          have hK9 := hK.sub (tys' := []) [] rfl
          exact W.zret (v := ra14) hx hb hr (pv_nz (by omega) (by omega)) (fun t ht hW => ⟨⟨ra14, (), rfl, ⟨by first | omega | decide, by first | omega | decide⟩, v0, x2, x15, v4, f6, by first | omega | decide, by first | omega | decide, by rw [ht]; exact hP9, va_K.moved hW.alike hK9, hD9⟩, hS.F ht⟩) hS.2.2 dX3_readAtom_117
      refine lv_icmp_ne (tgt := 98) hx hb dX3_readAtom_91 (by decide) (fun c16 => ?_) (fun c16 => ?_)
      · skip
        have fc16 : ¬ (ra1.toInt = (-1)) := fun h9 => c16 (Int32.toInt_inj.mp h9)
        refine va_ldcS hx hb hown h_vr_2 dX3_readAtom_98 ?_
        refine lv_iload_n hx hb dX3_readAtom_100 rfl (lv_at hl 0 rfl) ?_
        obtain ⟨t17, et17⟩ : ∃ z : Int32, z = ((ra1 : Int32).toUInt32 % 65536).toInt32 := ⟨_, rfl⟩
        refine lv_i2c (v := t17) hx hb dX3_readAtom_101 (by rw [et17]) ?_
        have hPc := hP.sub (ws' := []) [] rfl
        have hDc := hD.sub (ws' := []) [] (by decide) rfl
        have hKc := hK.sub (tys' := []) [] rfl
        have hFc := va_free (wc := []) hD hS hA [] rfl
        refine va_calli (va_runV (As := [.int t17]) (rest := []) ⟨hx, hb, hml, hown, hts⟩ (k_J0_indexOf_0f7a4 l dC dI adK adV t17  H.size) (cwV 1 hts g_X3_readAtom_6_5 rfl rfl rfl (by decide +kernel) ⟨Nat.le_of_ble_eq_true rfl, Nat.le_of_ble_eq_true rfl⟩) ⟨fun a U g mk q => by obtain ⟨q0, q1, qP, qK, qD, n0, n1⟩ := q; exact ⟨q0, q1, qP, va_K.moved (u := U) (U := U.calling g mk a) (Vm.Alike.refl U.vm) qK, qD, va_Z.moved (Vm.Alike.refl _) n0, vk_S.moved (Vm.Alike.refl _) n1⟩, vk_recv h_st_S (by decide : 2 < 3) hS, fun U hU hW => ⟨rfl, by rw [hU], by rw [hU]; exact hPc, va_K.moved hW.alike hKc, hDc.weaken (fun _ _ _ _ => trivial), (by rw [hU]; exact (va_Z.moved hW.alike (va_Z.kept h_st_CS hS.2.1)).narrow hFc), (by rw [hU]; exact (vk_S.moved hW.alike (vk_S.kept h_st_S hS.2.1)).narrow hFc)⟩⟩ rfl rfl hl.1 rfl (lv_room (Nat.le_of_ble_eq_true rfl)) dX3_readAtom_102 ⟨Nat.le_of_ble_eq_true rfl, Nat.le_of_ble_eq_true rfl⟩) hS (fun q _ h => hFc q h) hFc (fun ra18 u t H1 locs ht hvm hwra18 hB hz1 hk1 hS => ?_)
        obtain ⟨hP1, hK1, hD1⟩ := hB
        rw [ht] at hP1
        obtain ⟨hP, hD⟩ := va_join (wr := (wd_1ad0248d h0 h1 h3 v0 h1 h2 v1 x2 v3 v4 h2 g0 f5 h3 g1 f6)) (w1 := []) hP hD [] [0, 1, 2, 3] rfl rfl (by decide) (by decide) hk1 hFc hP1 hD1
        generalize H1 = H at hP hS ⊢
        have hP : va_P (dC, dI) vwCl (wd_1ad0248d h0 h1 h3 v0 h1 h2 v1 x2 v3 v4 h2 g0 f5 h3 g1 f6) H := hP
        have hD : va_D A (wd_1ad0248d h0 h1 h3 v0 h1 h2 v1 x2 v3 v4 h2 g0 f5 h3 g1 f6) := hD
        obtain ⟨wa_ra18, wb_ra18⟩ := hwra18
        have wa_ra18 : -1 ≤ ra18.toInt := wa_ra18
        have wb_ra18 : ra18.toInt ≤ 5 := wb_ra18
        exact hJ7 ra18 H locs ls (by first | omega | decide) (by first | omega | decide) hP hD hS (lv_sub hl [0, 1, 2] rfl)
      · skip
        have fc16 : ra1.toInt = (-1) := congrArg Int32.toInt c16
        refine lv_iconst (v := (-1)) hx hb dX3_readAtom_94 (by decide) ?_
        refine lv_goto (tgt := 105) hx hb dX3_readAtom_95 (by decide) ?_
        exact hJ7 ((-1)) H locs ls (by first | omega | decide) (by first | omega | decide) hP hD hS (lv_sub hl [0, 1, 2] rfl)
    · skip
      have fc5 : ¬ (ra4.toInt = 0) := fun h9 => c5 (Int32.toInt_inj.mp h9)
      refine lv_aload_n hx hb dX3_readAtom_62 rfl (lv_at hl 1 rfl) ?_
      refine va_get (D := (dC, dI)) (ci := 3) (v := .ref h1) (C := RX3) (T := TX3) (N := 3) hx hb hts (fun _ h => List.mem_cons_of_mem _ (List.mem_append_left _ (List.mem_append_right _ h))) hown hK hP 0 rfl rfl 0 (by decide) (hts (.fieldLink RX3 19 "LeftArguments$LawReader" "tape" "LLeftArguments$Tape;") (List.mem_cons_of_mem _ (List.mem_append_left _ (List.mem_append_left _ (List.mem_of_getElem? (i := 0) rfl))))) (fun _ h9 => h9) rfl dX3_readAtom_63 ?_
      refine lv_iconst (v := 4) hx hb dX3_readAtom_66 (by decide) ?_
      have hPc := hP.sub (ws' := (wd_82cdd16b h1 h2 v1 x2 v3 v4 h2 g0 f5)) [1, 2] rfl
      have hDc := hD.sub (ws' := (wd_82cdd16b h1 h2 v1 x2 v3 v4 h2 g0 f5)) [1, 2] (by decide) rfl
      have hKc := hK.sub (tys' := [(g0, .int)]) [0] rfl
      have hFc := va_free (wc := (wd_82cdd16b h1 h2 v1 x2 v3 v4 h2 g0 f5)) hD hS hA [1, 2] rfl
      refine va_calli (va_runV (As := [.int 4]) (rest := []) ⟨hx, hb, hml, hown, hts⟩ (k_X10_takeNumber l dC dI h1 h2 v1 x2 v3 v4 g0 f5 4 ⟨by first | omega | decide, by first | omega | decide⟩ H.size) (cwV 1 hts g_X3_readAtom_6_6 rfl rfl rfl (by decide +kernel) ⟨Nat.le_of_ble_eq_true rfl, Nat.le_of_ble_eq_true rfl⟩) ⟨fun a U g mk q => by obtain ⟨q0, q1, qP, qK, qD⟩ := q; exact ⟨q0, q1, qP, va_K.moved (u := U) (U := U.calling g mk a) (Vm.Alike.refl U.vm) qK, qD⟩, va_recv hKc hPc (ci := 10) (q0 := 0) rfl rfl, fun U hU hW => ⟨rfl, by rw [hU], by rw [hU]; exact hPc, va_K.moved hW.alike hKc, hDc.weaken (fun _ _ _ _ => trivial)⟩⟩ rfl rfl hl.1 rfl (lv_room (Nat.le_of_ble_eq_true rfl)) dX3_readAtom_67 ⟨Nat.le_of_ble_eq_true rfl, Nat.le_of_ble_eq_true rfl⟩) hS (fun q _ h => hFc q h) hFc (fun ra19 u t H1 locs ht hvm hwra19 hB hz1 hk1 hS => ?_)
      obtain ⟨x20, x21, x22, hP1, hK1, hD1⟩ := hB
      rw [ht] at hP1
      obtain ⟨hP, hD⟩ := va_join (wr := (wd_b958b9da h0 h1 h3 v0 h3 g1 f6)) (w1 := (wd_82cdd16b h1 h2 v1 x20 x21 x22 h2 g0 f5)) hP hD [1, 2] [0, 3] rfl rfl (by decide) (by decide) hk1 hFc hP1 hD1
      generalize H1 = H at hP hS ⊢
      have hP := hP.sub (ws' := (wd_1ad0248d h0 h1 h3 v0 h1 h2 v1 x20 x21 x22 h2 g0 f5 h3 g1 f6)) [0, 2, 3, 1] rfl
      have hD := hD.sub (ws' := (wd_1ad0248d h0 h1 h3 v0 h1 h2 v1 x20 x21 x22 h2 g0 f5 h3 g1 f6)) [0, 2, 3, 1] (by decide) rfl
      have hP : va_P (dC, dI) vwCl (wd_1ad0248d h0 h1 h3 v0 h1 h2 v1 x20 x21 x22 h2 g0 f5 h3 g1 f6) H := hP
      have hD : va_D A (wd_1ad0248d h0 h1 h3 v0 h1 h2 v1 x20 x21 x22 h2 g0 f5 h3 g1 f6) := hD
      obtain ⟨wa_ra19, wb_ra19⟩ := hwra19
      have wa_ra19 : 0 ≤ ra19.toInt := wa_ra19
      have wb_ra19 : ra19.toInt ≤ 1 := wb_ra19
      refine lv_if_ne (tgt := 75) hx hb dX3_readAtom_70 (by decide) (fun c23 => ?_) (fun c23 => ?_)
      · skip
        have fc23 : ¬ (ra19.toInt = 0) := fun h9 => c23 (Int32.toInt_inj.mp h9)
        refine lv_aload_n hx hb dX3_readAtom_75 rfl (lv_at hl 1 rfl) ?_
        refine lv_iconst (v := 0) hx hb dX3_readAtom_76 (by decide) ?_
        refine lv_aload_n hx hb dX3_readAtom_77 rfl (lv_at hl 1 rfl) ?_
        refine va_get (D := (dC, dI)) (ci := 3) (v := .ref h1) (C := RX3) (T := TX3) (N := 3) hx hb hts (fun _ h => List.mem_cons_of_mem _ (List.mem_append_left _ (List.mem_append_right _ h))) hown hK hP 0 rfl rfl 0 (by decide) (hts (.fieldLink RX3 19 "LeftArguments$LawReader" "tape" "LLeftArguments$Tape;") (List.mem_cons_of_mem _ (List.mem_append_left _ (List.mem_append_left _ (List.mem_of_getElem? (i := 0) rfl))))) (fun _ h9 => h9) rfl dX3_readAtom_78 ?_
        have hPc := hP.sub (ws' := (wd_09b0abee h1 h2 v1 x20 x21 x22)) [1] rfl
        have hDc := hD.sub (ws' := (wd_09b0abee h1 h2 v1 x20 x21 x22)) [1] (by decide) rfl
        have hKc := hK.sub (tys' := []) [] rfl
        have hFc := va_free (wc := (wd_09b0abee h1 h2 v1 x20 x21 x22)) hD hS hA [1] rfl
        refine va_calli (va_runV (As := []) (rest := [.int 0, .ref h0]) ⟨hx, hb, hml, hown, hts⟩ (k_X10_number l dC dI h1 h2 v1 x20 x21 x22 ⟨by first | omega | decide, by first | omega | decide⟩ H.size) (cwV 0 hts g_X3_readAtom_6_7 rfl rfl rfl (by decide +kernel) ⟨Nat.le_of_ble_eq_true rfl, Nat.le_of_ble_eq_true rfl⟩) ⟨fun a U g mk q => by obtain ⟨q0, q1, qP, qK, qD⟩ := q; exact ⟨q0, q1, qP, va_K.moved (u := U) (U := U.calling g mk a) (Vm.Alike.refl U.vm) qK, qD⟩, va_recv hKc hPc (ci := 10) (q0 := 0) rfl rfl, fun U hU hW => ⟨rfl, by rw [hU], by rw [hU]; exact hPc, va_K.moved hW.alike hKc, hDc.weaken (fun _ _ _ _ => trivial)⟩⟩ rfl rfl hl.1 rfl (lv_room (Nat.le_of_ble_eq_true rfl)) dX3_readAtom_81 ⟨Nat.le_of_ble_eq_true rfl, Nat.le_of_ble_eq_true rfl⟩) hS (fun q _ h => hFc q h) hFc (fun ra24 u t H1 locs ht hvm hwra24 hB hz1 hk1 hS => ?_)
        obtain ⟨hP1, hK1, hD1⟩ := hB
        rw [ht] at hP1
        obtain ⟨hP, hD⟩ := va_join (wr := (wd_6b0d8e05 h0 h1 h3 v0 h2 g0 f5 h3 g1 f6)) (w1 := (wd_09b0abee h1 h2 v1 x20 x21 x22)) hP hD [1] [0, 2, 3] rfl rfl (by decide) (by decide) hk1 hFc hP1 hD1
        generalize H1 = H at hP hS ⊢
        have hP := hP.sub (ws' := (wd_1ad0248d h0 h1 h3 v0 h1 h2 v1 x20 x21 x22 h2 g0 f5 h3 g1 f6)) [0, 3, 1, 2] rfl
        have hD := hD.sub (ws' := (wd_1ad0248d h0 h1 h3 v0 h1 h2 v1 x20 x21 x22 h2 g0 f5 h3 g1 f6)) [0, 3, 1, 2] (by decide) rfl
        have hP : va_P (dC, dI) vwCl (wd_1ad0248d h0 h1 h3 v0 h1 h2 v1 x20 x21 x22 h2 g0 f5 h3 g1 f6) H := hP
        have hD : va_D A (wd_1ad0248d h0 h1 h3 v0 h1 h2 v1 x20 x21 x22 h2 g0 f5 h3 g1 f6) := hD
        have hPc := hP.sub (ws' := (wd_b958b9da h0 h1 h3 v0 h3 g1 f6)) [0, 3] rfl
        have hDc := hD.sub (ws' := (wd_b958b9da h0 h1 h3 v0 h3 g1 f6)) [0, 3] (by decide) rfl
        have hKc := hK.sub (tys' := [(g1, .int)]) [1] rfl
        have hFc := va_free (wc := (wd_b958b9da h0 h1 h3 v0 h3 g1 f6)) hD hS hA [0, 3] rfl
        refine va_callv (va_runV (As := [.int 0, .int ra24]) (rest := []) ⟨hx, hb, hml, hown, hts⟩ (k_X3_write l dC dI h0 h3 h1 v0 g1 f6 0 ra24 ⟨by first | omega | decide, by first | omega | decide⟩ H.size) (cwV 2 hts g_X3_readAtom_6_3 rfl rfl rfl (by decide +kernel) ⟨Nat.le_of_ble_eq_true rfl, Nat.le_of_ble_eq_true rfl⟩) ⟨fun a U g mk q => by obtain ⟨q0, q1, qP, qK, qD⟩ := q; exact ⟨q0, q1, qP, va_K.moved (u := U) (U := U.calling g mk a) (Vm.Alike.refl U.vm) qK, qD⟩, va_recv hKc hPc (ci := 3) (q0 := 0) rfl rfl, fun U hU hW => ⟨rfl, by rw [hU], by rw [hU]; exact hPc, va_K.moved hW.alike hKc, hDc.weaken (fun _ _ _ _ => trivial)⟩⟩ rfl rfl hl.1 rfl (lv_room (Nat.le_of_ble_eq_true rfl)) dX3_readAtom_84 ⟨Nat.le_of_ble_eq_true rfl, Nat.le_of_ble_eq_true rfl⟩) hS (fun q _ h => hFc q h) hFc (fun u t H1 locs ht hvm hwra25 hB hz1 hk1 hS => ?_)
        obtain ⟨x26, fn27, oa_x26, ob_x26, hP1, hK1, hD1⟩ := hB
        rw [ht] at hP1
        obtain ⟨hP, hD⟩ := va_join (wr := (wd_82cdd16b h1 h2 v1 x20 x21 x22 h2 g0 f5)) (w1 := (wd_b958b9da h0 h1 h3 x26 h3 g1 fn27)) hP hD [0, 3] [1, 2] rfl rfl (by decide) (by decide) hk1 hFc hP1 hD1
        generalize H1 = H at hP hS ⊢
        have hP := hP.sub (ws' := (wd_1ad0248d h0 h1 h3 x26 h1 h2 v1 x20 x21 x22 h2 g0 f5 h3 g1 fn27)) [2, 0, 1, 3] rfl
        have hD := hD.sub (ws' := (wd_1ad0248d h0 h1 h3 x26 h1 h2 v1 x20 x21 x22 h2 g0 f5 h3 g1 fn27)) [2, 0, 1, 3] (by decide) rfl
        have hP : va_P (dC, dI) vwCl (wd_1ad0248d h0 h1 h3 x26 h1 h2 v1 x20 x21 x22 h2 g0 f5 h3 g1 fn27) H := hP
        have hD : va_D A (wd_1ad0248d h0 h1 h3 x26 h1 h2 v1 x20 x21 x22 h2 g0 f5 h3 g1 fn27) := hD
        refine lv_iconst (v := 1) hx hb dX3_readAtom_87 (by decide) ?_
        subst hQ
        have hP9 := hP.sub (ws' := (wd_1ad0248d h0 h1 h3 x26 h1 h2 v1 x20 x21 x22 h2 g0 f5 h3 g1 fn27)) [0, 1, 2, 3] rfl
        have hD9 := hD.sub (ws' := (wd_1ad0248d h0 h1 h3 x26 h1 h2 v1 x20 x21 x22 h2 g0 f5 h3 g1 fn27)) [0, 1, 2, 3] (by decide) rfl
        have hK9 := hK.sub (tys' := []) [] rfl
        exact W.zret (v := 1) hx hb hr rfl (fun t ht hW => ⟨⟨1, (), rfl, ⟨by first | omega | decide, by first | omega | decide⟩, x26, x20, x21, x22, fn27, by first | omega | decide, by first | omega | decide, by rw [ht]; exact hP9, va_K.moved hW.alike hK9, hD9⟩, hS.F ht⟩) hS.2.2 dX3_readAtom_88
      · skip
        have fc23 : ra19.toInt = 0 := congrArg Int32.toInt c23
        refine lv_iconst (v := 0) hx hb dX3_readAtom_73 (by decide) ?_
        subst hQ
        have hP9 := hP.sub (ws' := (wd_1ad0248d h0 h1 h3 v0 h1 h2 v1 x20 x21 x22 h2 g0 f5 h3 g1 f6)) [0, 1, 2, 3] rfl
        have hD9 := hD.sub (ws' := (wd_1ad0248d h0 h1 h3 v0 h1 h2 v1 x20 x21 x22 h2 g0 f5 h3 g1 f6)) [0, 1, 2, 3] (by decide) rfl
        have hK9 := hK.sub (tys' := []) [] rfl
        exact W.zret (v := 0) hx hb hr rfl (fun t ht hW => ⟨⟨0, (), rfl, ⟨by first | omega | decide, by first | omega | decide⟩, v0, x20, x21, x22, f6, by first | omega | decide, by first | omega | decide, by rw [ht]; exact hP9, va_K.moved hW.alike hK9, hD9⟩, hS.F ht⟩) hS.2.2 dX3_readAtom_74
  · skip
    have fc3 : ra1.toInt = 91 := congrArg Int32.toInt c3
    refine lv_iload_n hx hb dX3_readAtom_14 rfl (lv_at hl 2 rfl) ?_
    refine lv_bipush (v := 6) hx hb dX3_readAtom_15 (by decide) ?_
    refine lv_icmp_ge (tgt := 55) hx hb dX3_readAtom_17 (by decide) (fun c => absurd c (by decide)) (fun _ => ?_)
    refine lv_aload_n hx hb dX3_readAtom_20 rfl (lv_at hl 1 rfl) ?_
    refine va_get (D := (dC, dI)) (ci := 3) (v := .ref h1) (C := RX3) (T := TX3) (N := 3) hx hb hts (fun _ h => List.mem_cons_of_mem _ (List.mem_append_left _ (List.mem_append_right _ h))) hown hK hP 0 rfl rfl 0 (by decide) (hts (.fieldLink RX3 19 "LeftArguments$LawReader" "tape" "LLeftArguments$Tape;") (List.mem_cons_of_mem _ (List.mem_append_left _ (List.mem_append_left _ (List.mem_of_getElem? (i := 0) rfl))))) (fun _ h9 => h9) rfl dX3_readAtom_21 ?_
    have hPc := hP.sub (ws' := (wd_09b0abee h1 h2 v1 x2 v3 v4)) [1] rfl
    have hDc := hD.sub (ws' := (wd_09b0abee h1 h2 v1 x2 v3 v4)) [1] (by decide) rfl
    have hKc := hK.sub (tys' := []) [] rfl
    have hFc := va_free (wc := (wd_09b0abee h1 h2 v1 x2 v3 v4)) hD hS hA [1] rfl
    refine va_callv (va_runV (As := []) (rest := []) ⟨hx, hb, hml, hown, hts⟩ (k_X10_step l dC dI h1 h2 v1 x2 v3 v4 ⟨by first | omega | decide, by first | omega | decide⟩ H.size) (cwV 0 hts g_X3_readAtom_6_2 rfl rfl rfl (by decide +kernel) ⟨Nat.le_of_ble_eq_true rfl, Nat.le_of_ble_eq_true rfl⟩) ⟨fun a U g mk q => by obtain ⟨q0, q1, qP, qK, qD⟩ := q; exact ⟨q0, q1, qP, va_K.moved (u := U) (U := U.calling g mk a) (Vm.Alike.refl U.vm) qK, qD⟩, va_recv hKc hPc (ci := 10) (q0 := 0) rfl rfl, fun U hU hW => ⟨rfl, by rw [hU], by rw [hU]; exact hPc, va_K.moved hW.alike hKc, hDc.weaken (fun _ _ _ _ => trivial)⟩⟩ rfl rfl hl.1 rfl (lv_room (Nat.le_of_ble_eq_true rfl)) dX3_readAtom_24 ⟨Nat.le_of_ble_eq_true rfl, Nat.le_of_ble_eq_true rfl⟩) hS (fun q _ h => hFc q h) hFc (fun u t H1 locs ht hvm hwra28 hB hz1 hk1 hS => ?_)
    obtain ⟨x29, hP1, hK1, hD1⟩ := hB
    rw [ht] at hP1
    obtain ⟨hP, hD⟩ := va_join (wr := (wd_6b0d8e05 h0 h1 h3 v0 h2 g0 f5 h3 g1 f6)) (w1 := (wd_09b0abee h1 h2 v1 x29 v3 v4)) hP hD [1] [0, 2, 3] rfl rfl (by decide) (by decide) hk1 hFc hP1 hD1
    generalize H1 = H at hP hS ⊢
    have hP := hP.sub (ws' := (wd_1ad0248d h0 h1 h3 v0 h1 h2 v1 x29 v3 v4 h2 g0 f5 h3 g1 f6)) [0, 3, 1, 2] rfl
    have hD := hD.sub (ws' := (wd_1ad0248d h0 h1 h3 v0 h1 h2 v1 x29 v3 v4 h2 g0 f5 h3 g1 f6)) [0, 3, 1, 2] (by decide) rfl
    have hP : va_P (dC, dI) vwCl (wd_1ad0248d h0 h1 h3 v0 h1 h2 v1 x29 v3 v4 h2 g0 f5 h3 g1 f6) H := hP
    have hD : va_D A (wd_1ad0248d h0 h1 h3 v0 h1 h2 v1 x29 v3 v4 h2 g0 f5 h3 g1 f6) := hD
    refine lv_aload_n hx hb dX3_readAtom_27 rfl (lv_at hl 1 rfl) ?_
    refine lv_iload_n hx hb dX3_readAtom_28 rfl (lv_at hl 2 rfl) ?_
    refine lv_iconst (v := 1) hx hb dX3_readAtom_29 (by decide) ?_
    refine lv_iadd hx hb dX3_readAtom_30 ?_
    refine lv_topi (fun tv30 etv30 => ?_)
    obtain rfl : tv30 = (1 : Int32) := etv30.trans (by first | rfl | decide)
    have hPc := hP.sub (ws' := (wd_1ad0248d h0 h1 h3 v0 h1 h2 v1 x29 v3 v4 h2 g0 f5 h3 g1 f6)) [0, 1, 2, 3] rfl
    have hDc := hD.sub (ws' := (wd_1ad0248d h0 h1 h3 v0 h1 h2 v1 x29 v3 v4 h2 g0 f5 h3 g1 f6)) [0, 1, 2, 3] (by decide) rfl
    have hKc := hK.sub (tys' := [(g0, .int), (g1, .int)]) [0, 1] rfl
    have hFc := va_free (wc := (wd_1ad0248d h0 h1 h3 v0 h1 h2 v1 x29 v3 v4 h2 g0 f5 h3 g1 f6)) hD hS hA [0, 1, 2, 3] rfl
    refine va_calli (va_runV (As := [.int 1]) (rest := []) ⟨hx, hb, hml, hown, hts⟩ (k_X3_readSum_5 l dC dI adK adV h0 h1 h2 h3 v0 v1 x29 v3 v4 g0 f5 g1 f6 ⟨by first | omega | decide, by first | omega | decide⟩ ⟨by first | omega | decide, by first | omega | decide⟩ H.size) (cwV 1 hts g_X3_readAtom_6_10 rfl rfl rfl (by decide +kernel) ⟨Nat.le_of_ble_eq_true rfl, Nat.le_of_ble_eq_true rfl⟩) ⟨fun a U g mk q => by obtain ⟨q0, q1, qP, qK, qD, n0, n1, n2⟩ := q; exact ⟨q0, q1, qP, va_K.moved (u := U) (U := U.calling g mk a) (Vm.Alike.refl U.vm) qK, qD, vk_R.same rfl n0, va_Z.moved (Vm.Alike.refl _) n1, vk_S.moved (Vm.Alike.refl _) n2⟩, va_recv hKc hPc (ci := 3) (q0 := 0) rfl rfl, fun U hU hW => ⟨rfl, by rw [hU], by rw [hU]; exact hPc, va_K.moved hW.alike hKc, hDc.weaken (fun _ _ _ _ => trivial), vk_R.warm hW h_vr_2, (by rw [hU]; exact (va_Z.moved hW.alike (va_Z.kept h_st_CS hS.2.1)).narrow hFc), (by rw [hU]; exact (vk_S.moved hW.alike (vk_S.kept h_st_S hS.2.1)).narrow hFc)⟩⟩ rfl rfl hl.1 rfl (lv_room (Nat.le_of_ble_eq_true rfl)) dX3_readAtom_31 ⟨Nat.le_of_ble_eq_true rfl, Nat.le_of_ble_eq_true rfl⟩) hS (fun q _ h => hFc q h) hFc (fun ra31 u t H1 locs ht hvm hwra31 hB hz1 hk1 hS => ?_)
    obtain ⟨x32, x33, x34, x35, fn36, oa_x32, ob_x32, hP1, hK1, hD1⟩ := hB
    rw [ht] at hP1
    obtain ⟨hP, hD⟩ := va_join (wr := []) (w1 := (wd_1ad0248d h0 h1 h3 x32 h1 h2 v1 x33 x34 x35 h2 g0 f5 h3 g1 fn36)) hP hD [0, 1, 2, 3] [] rfl rfl (by decide) (by decide) hk1 hFc hP1 hD1
    generalize H1 = H at hP hS ⊢
    have hP : va_P (dC, dI) vwCl (wd_1ad0248d h0 h1 h3 x32 h1 h2 v1 x33 x34 x35 h2 g0 f5 h3 g1 fn36) H := hP
    have hD : va_D A (wd_1ad0248d h0 h1 h3 x32 h1 h2 v1 x33 x34 x35 h2 g0 f5 h3 g1 fn36) := hD
    obtain ⟨wa_ra31, wb_ra31⟩ := hwra31
    have wa_ra31 : 0 ≤ ra31.toInt := wa_ra31
    have wb_ra31 : ra31.toInt ≤ 1 := wb_ra31
    have hJ40 : ∀ (x37 : Int32) (x38 : Int32) (x39 : Int32) (H : Heap) (locs : List Loc) (ls : Array Slot), 0 ≤ x37.toInt → x37.toInt ≤ 1 → va_P (dC, dI) vwCl (wd_1ad0248d h0 h1 h3 x32 h1 h2 v1 x38 x39 x35 h2 g0 f5 h3 g1 fn36) H → va_D A (wd_1ad0248d h0 h1 h3 x32 h1 h2 v1 x38 x39 x35 h2 g0 f5 h3 g1 fn36) → va_S A s.heap H locs → lv_has ls 4 [(2, .int ra1), (0, .ref h0), (1, .int 0)] → W p l e ({ frames := 22, cells := 0, slots := 0, locals := 505 }) s m ([.ref h0, .int 0] : List Value).toArray below meth c H locs 0 0 Q (F0 m 54 ls [.int x37]) := by
      intro x37 x38 x39 H locs ls qa_x37 qb_x37 hP hD hS hl
      subst hQ
      have hP9 := hP.sub (ws' := (wd_1ad0248d h0 h1 h3 x32 h1 h2 v1 x38 x39 x35 h2 g0 f5 h3 g1 fn36)) [0, 1, 2, 3] rfl
      have hD9 := hD.sub (ws' := (wd_1ad0248d h0 h1 h3 x32 h1 h2 v1 x38 x39 x35 h2 g0 f5 h3 g1 fn36)) [0, 1, 2, 3] (by decide) rfl
      have hK9 := hK.sub (tys' := []) [] rfl
      exact W.zret (v := x37) hx hb hr (pv_nz (by omega) (by omega)) (fun t ht hW => ⟨⟨x37, (), rfl, ⟨by first | omega | decide, by first | omega | decide⟩, x32, x38, x39, x35, fn36, by first | omega | decide, by first | omega | decide, by rw [ht]; exact hP9, va_K.moved hW.alike hK9, hD9⟩, hS.F ht⟩) hS.2.2 dX3_readAtom_54
    refine lv_if_eq (tgt := 53) hx hb dX3_readAtom_34 (by decide) (fun c41 => ?_) (fun c41 => ?_)
    · skip
      have fc41 : ra31.toInt = 0 := congrArg Int32.toInt c41
      refine lv_iconst (v := 0) hx hb dX3_readAtom_53 (by decide) ?_
      exact hJ40 0 x33 x34 H locs ls (by first | omega | decide) (by first | omega | decide) hP hD hS (lv_sub hl [0, 1, 2] rfl)
    · skip
      have fc41 : ¬ (ra31.toInt = 0) := fun h9 => c41 (Int32.toInt_inj.mp h9)
      refine lv_aload_n hx hb dX3_readAtom_37 rfl (lv_at hl 1 rfl) ?_
      refine va_get (D := (dC, dI)) (ci := 3) (v := .ref h1) (C := RX3) (T := TX3) (N := 3) hx hb hts (fun _ h => List.mem_cons_of_mem _ (List.mem_append_left _ (List.mem_append_right _ h))) hown hK hP 0 rfl rfl 0 (by decide) (hts (.fieldLink RX3 19 "LeftArguments$LawReader" "tape" "LLeftArguments$Tape;") (List.mem_cons_of_mem _ (List.mem_append_left _ (List.mem_append_left _ (List.mem_of_getElem? (i := 0) rfl))))) (fun _ h9 => h9) rfl dX3_readAtom_38 ?_
      refine lv_bipush (v := 93) hx hb dX3_readAtom_41 (by decide) ?_
      have hPc := hP.sub (ws' := (wd_82cdd16b h1 h2 v1 x33 x34 x35 h2 g0 f5)) [1, 2] rfl
      have hDc := hD.sub (ws' := (wd_82cdd16b h1 h2 v1 x33 x34 x35 h2 g0 f5)) [1, 2] (by decide) rfl
      have hKc := hK.sub (tys' := [(g0, .int)]) [0] rfl
      have hFc := va_free (wc := (wd_82cdd16b h1 h2 v1 x33 x34 x35 h2 g0 f5)) hD hS hA [1, 2] rfl
      refine va_calli (va_runV (As := [.int 93]) (rest := []) ⟨hx, hb, hml, hown, hts⟩ (k_X10_take l dC dI h1 h2 v1 x33 x34 x35 g0 f5 93 ⟨by first | omega | decide, by first | omega | decide⟩ H.size) (cwV 1 hts g_X3_readAtom_6_11 rfl rfl rfl (by decide +kernel) ⟨Nat.le_of_ble_eq_true rfl, Nat.le_of_ble_eq_true rfl⟩) ⟨fun a U g mk q => by obtain ⟨q0, q1, qP, qK, qD⟩ := q; exact ⟨q0, q1, qP, va_K.moved (u := U) (U := U.calling g mk a) (Vm.Alike.refl U.vm) qK, qD⟩, va_recv hKc hPc (ci := 10) (q0 := 0) rfl rfl, fun U hU hW => ⟨rfl, by rw [hU], by rw [hU]; exact hPc, va_K.moved hW.alike hKc, hDc.weaken (fun _ _ _ _ => trivial)⟩⟩ rfl rfl hl.1 rfl (lv_room (Nat.le_of_ble_eq_true rfl)) dX3_readAtom_43 ⟨Nat.le_of_ble_eq_true rfl, Nat.le_of_ble_eq_true rfl⟩) hS (fun q _ h => hFc q h) hFc (fun ra42 u t H1 locs ht hvm hwra42 hB hz1 hk1 hS => ?_)
      obtain ⟨x43, x44, hP1, hK1, hD1⟩ := hB
      rw [ht] at hP1
      obtain ⟨hP, hD⟩ := va_join (wr := (wd_b958b9da h0 h1 h3 x32 h3 g1 fn36)) (w1 := (wd_82cdd16b h1 h2 v1 x43 x44 x35 h2 g0 f5)) hP hD [1, 2] [0, 3] rfl rfl (by decide) (by decide) hk1 hFc hP1 hD1
      generalize H1 = H at hP hS ⊢
      have hP := hP.sub (ws' := (wd_1ad0248d h0 h1 h3 x32 h1 h2 v1 x43 x44 x35 h2 g0 f5 h3 g1 fn36)) [0, 2, 3, 1] rfl
      have hD := hD.sub (ws' := (wd_1ad0248d h0 h1 h3 x32 h1 h2 v1 x43 x44 x35 h2 g0 f5 h3 g1 fn36)) [0, 2, 3, 1] (by decide) rfl
      have hP : va_P (dC, dI) vwCl (wd_1ad0248d h0 h1 h3 x32 h1 h2 v1 x43 x44 x35 h2 g0 f5 h3 g1 fn36) H := hP
      have hD : va_D A (wd_1ad0248d h0 h1 h3 x32 h1 h2 v1 x43 x44 x35 h2 g0 f5 h3 g1 fn36) := hD
      obtain ⟨wa_ra42, wb_ra42⟩ := hwra42
      have wa_ra42 : 0 ≤ ra42.toInt := wa_ra42
      have wb_ra42 : ra42.toInt ≤ 1 := wb_ra42
      refine lv_if_eq (tgt := 53) hx hb dX3_readAtom_46 (by decide) (fun c45 => ?_) (fun c45 => ?_)
      · skip
        have fc45 : ra42.toInt = 0 := congrArg Int32.toInt c45
        refine lv_iconst (v := 0) hx hb dX3_readAtom_53 (by decide) ?_
        exact hJ40 0 x43 x44 H locs ls (by first | omega | decide) (by first | omega | decide) hP hD hS (lv_sub hl [0, 1, 2] rfl)
      · skip
        have fc45 : ¬ (ra42.toInt = 0) := fun h9 => c45 (Int32.toInt_inj.mp h9)
        refine lv_iconst (v := 1) hx hb dX3_readAtom_49 (by decide) ?_
        refine lv_goto (tgt := 54) hx hb dX3_readAtom_50 (by decide) ?_
        exact hJ40 1 x43 x44 H locs ls (by first | omega | decide) (by first | omega | decide) hP hD hS (lv_sub hl [0, 1, 2] rfl)
def q_X3_readTerm_6 : List Cond := .code yX3_readTerm cX3_readTerm 4 (some .boolean) :: (([.code yX3_readAtom cX3_readAtom 4 (some .boolean), .fieldLink RX3 19 "LeftArguments$LawReader" "tape" "LLeftArguments$Tape;", .code yX10_next cX10_next 1 (some .int), .fieldLink RX10 19 "LeftArguments$Tape" "at" "I", .fieldLink RX10 15 "LeftArguments$Tape" "used" "I", .fieldLink RX10 9 "LeftArguments$Tape" "bytes" "[I", .initialized RX10, .instanceMethod yX10_next, .selects RX10 yX10_next yX10_next, .methodLink RX3 48 yX10_next, .code yX10_isDigit cX10_isDigit 1 (some .boolean), .static yX10_isDigit, .methodLink RX3 92 yX10_isDigit, .code yX10_step cX10_step 1 none, .instanceMethod yX10_step, .selects RX10 yX10_step yX10_step, .methodLink RX3 77 yX10_step, .code yX3_write cX3_write 3 none, .fieldLink RX3 15 "LeftArguments$LawReader" "used" "I", .fieldLink RX3 11 "LeftArguments$LawReader" "code" "[I", .initialized RX3, .instanceMethod yX3_write, .selects RX3 yX3_write yX3_write, .methodLink RX3 66 yX3_write, .code yX10_wrongHere cX10_wrongHere 1 (some .boolean), .fieldLink RX10 22 "LeftArguments$Tape" "wrongAt" "I", .instanceMethod yX10_wrongHere, .selects RX10 yX10_wrongHere yX10_wrongHere, .methodLink RX3 83 yX10_wrongHere, .code yJ0_indexOf_0f7a4 cJ0_indexOf_0f7a4 2 (some .int), .code yJ0_indexOf_7cf53 cJ0_indexOf_7cf53 3 (some .int), .code yJ0_isLatin1_aae02 cJ0_isLatin1_aae02 1 (some .boolean), .fieldLink RJ0 38 "java/lang/String" "COMPACT_STRINGS" "Z", .fieldLink RJ0 15 "java/lang/String" "coder" "B", .initialized RJ0, .instanceMethod yJ0_isLatin1_aae02, .selects RJ0 yJ0_isLatin1_aae02 yJ0_isLatin1_aae02, .methodLink RJ0 492 yJ0_isLatin1_aae02, .fieldLink RJ0 9 "java/lang/String" "value" "[B", .code yJ0_length_8abf5 cJ0_length_8abf5 1 (some .int), .code yJ0_coder_7d493 cJ0_coder_7d493 1 (some .byte), .instanceMethod yJ0_coder_7d493, .selects RJ0 yJ0_coder_7d493 yJ0_coder_7d493, .methodLink RJ0 335 yJ0_coder_7d493, .instanceMethod yJ0_length_8abf5, .selects RJ0 yJ0_length_8abf5 yJ0_length_8abf5, .methodLink RJ0 505 yJ0_length_8abf5, .code yJ1_indexOf_4cfef cJ1_indexOf_4cfef 4 (some .int), .code yJ1_canEncode_9a6ad cJ1_canEncode_9a6ad 1 (some .boolean), .initialized RJ1, .static yJ1_canEncode_9a6ad, .methodLink RJ1 88 yJ1_canEncode_9a6ad, .methodLink RJ1 92 Lib.Math.max.name, .static Lib.Math.max.name, .initialized "java/lang/Math", .code Lib.Math.max.name Lib.Math.max.code 2 (some .int), .methodLink RJ1 38 Lib.Math.min.name, .static Lib.Math.min.name, .code Lib.Math.min.name Lib.Math.min.code 2 (some .int), .code yJ1_indexOfChar_4cfef cJ1_indexOfChar_4cfef 6 (some .int), .static yJ1_indexOfChar_4cfef, .methodLink RJ1 95 yJ1_indexOfChar_4cfef, .static yJ1_indexOf_4cfef, .methodLink RJ0 637 yJ1_indexOf_4cfef, .instanceMethod yJ0_indexOf_7cf53, .selects RJ0 yJ0_indexOf_7cf53 yJ0_indexOf_7cf53, .methodLink RJ0 633 yJ0_indexOf_7cf53, .instanceMethod yJ0_indexOf_0f7a4, .selects RJ0 yJ0_indexOf_0f7a4 yJ0_indexOf_0f7a4, .methodLink RX3 103 yJ0_indexOf_0f7a4, .code yX10_takeNumber cX10_takeNumber 3 (some .boolean), .methodLink RX10 37 yX10_next, .methodLink RX10 45 yX10_isDigit, .fieldLink RX10 25 "LeftArguments$Tape" "number" "I", .code yX10_sign cX10_sign 1 (some .int), .instanceMethod yX10_sign, .selects RX10 yX10_sign yX10_sign, .methodLink RX10 49 yX10_sign, .methodLink RX10 41 yX10_wrongHere, .instanceMethod yX10_takeNumber, .selects RX10 yX10_takeNumber yX10_takeNumber, .methodLink RX3 95 yX10_takeNumber, .code yX10_number cX10_number 1 (some .int), .instanceMethod yX10_number, .selects RX10 yX10_number yX10_number, .methodLink RX3 98 yX10_number, .code yX3_readSum cX3_readSum 4 (some .boolean), .code yX3_readTerm cX3_readTerm 4 (some .boolean), .instanceMethod yX3_readAtom, .selects RX3 yX3_readAtom yX3_readAtom, .methodLink RX3 89 yX3_readAtom, .instanceMethod yX3_readTerm, .selects RX3 yX3_readTerm yX3_readTerm, .methodLink RX3 86 yX3_readTerm, .instanceMethod yX3_readSum, .selects RX3 yX3_readSum yX3_readSum, .methodLink RX3 59 yX3_readSum, .code yX10_take cX10_take 2 (some .boolean), .instanceMethod yX10_take, .selects RX10 yX10_take yX10_take, .methodLink RX3 51 yX10_take] : List Cond) ++ wsX30 ++ wsX100)
set_option maxRecDepth 20000 in
theorem g_X3_readTerm_6_0 : GoodIn q_X3_readTerm_6 (wsV RX3 89 RX3 yX3_readAtom q_X3_readAtom_6) := goodIn_app (goodIn_r _ [91, 89, 90, 21] rfl (by decide +kernel)) (goodIn_ca (goodIn_ca (goodIn_r (.code yX3_readAtom cX3_readAtom 4 (some .boolean) :: [.fieldLink RX3 19 "LeftArguments$LawReader" "tape" "LLeftArguments$Tape;", .code yX10_next cX10_next 1 (some .int), .fieldLink RX10 19 "LeftArguments$Tape" "at" "I", .fieldLink RX10 15 "LeftArguments$Tape" "used" "I", .fieldLink RX10 9 "LeftArguments$Tape" "bytes" "[I", .initialized RX10, .instanceMethod yX10_next, .selects RX10 yX10_next yX10_next, .methodLink RX3 48 yX10_next, .code yX10_isDigit cX10_isDigit 1 (some .boolean), .static yX10_isDigit, .methodLink RX3 92 yX10_isDigit, .code yX10_step cX10_step 1 none, .instanceMethod yX10_step, .selects RX10 yX10_step yX10_step, .methodLink RX3 77 yX10_step, .code yX3_write cX3_write 3 none, .fieldLink RX3 15 "LeftArguments$LawReader" "used" "I", .fieldLink RX3 11 "LeftArguments$LawReader" "code" "[I", .initialized RX3, .instanceMethod yX3_write, .selects RX3 yX3_write yX3_write, .methodLink RX3 66 yX3_write, .code yX10_wrongHere cX10_wrongHere 1 (some .boolean), .fieldLink RX10 22 "LeftArguments$Tape" "wrongAt" "I", .instanceMethod yX10_wrongHere, .selects RX10 yX10_wrongHere yX10_wrongHere, .methodLink RX3 83 yX10_wrongHere, .code yJ0_indexOf_0f7a4 cJ0_indexOf_0f7a4 2 (some .int), .code yJ0_indexOf_7cf53 cJ0_indexOf_7cf53 3 (some .int), .code yJ0_isLatin1_aae02 cJ0_isLatin1_aae02 1 (some .boolean), .fieldLink RJ0 38 "java/lang/String" "COMPACT_STRINGS" "Z", .fieldLink RJ0 15 "java/lang/String" "coder" "B", .initialized RJ0, .instanceMethod yJ0_isLatin1_aae02, .selects RJ0 yJ0_isLatin1_aae02 yJ0_isLatin1_aae02, .methodLink RJ0 492 yJ0_isLatin1_aae02, .fieldLink RJ0 9 "java/lang/String" "value" "[B", .code yJ0_length_8abf5 cJ0_length_8abf5 1 (some .int), .code yJ0_coder_7d493 cJ0_coder_7d493 1 (some .byte), .instanceMethod yJ0_coder_7d493, .selects RJ0 yJ0_coder_7d493 yJ0_coder_7d493, .methodLink RJ0 335 yJ0_coder_7d493, .instanceMethod yJ0_length_8abf5, .selects RJ0 yJ0_length_8abf5 yJ0_length_8abf5, .methodLink RJ0 505 yJ0_length_8abf5, .code yJ1_indexOf_4cfef cJ1_indexOf_4cfef 4 (some .int), .code yJ1_canEncode_9a6ad cJ1_canEncode_9a6ad 1 (some .boolean), .initialized RJ1, .static yJ1_canEncode_9a6ad, .methodLink RJ1 88 yJ1_canEncode_9a6ad, .methodLink RJ1 92 Lib.Math.max.name, .static Lib.Math.max.name, .initialized "java/lang/Math", .code Lib.Math.max.name Lib.Math.max.code 2 (some .int), .methodLink RJ1 38 Lib.Math.min.name, .static Lib.Math.min.name, .code Lib.Math.min.name Lib.Math.min.code 2 (some .int), .code yJ1_indexOfChar_4cfef cJ1_indexOfChar_4cfef 6 (some .int), .static yJ1_indexOfChar_4cfef, .methodLink RJ1 95 yJ1_indexOfChar_4cfef, .static yJ1_indexOf_4cfef, .methodLink RJ0 637 yJ1_indexOf_4cfef, .instanceMethod yJ0_indexOf_7cf53, .selects RJ0 yJ0_indexOf_7cf53 yJ0_indexOf_7cf53, .methodLink RJ0 633 yJ0_indexOf_7cf53, .instanceMethod yJ0_indexOf_0f7a4, .selects RJ0 yJ0_indexOf_0f7a4 yJ0_indexOf_0f7a4, .methodLink RX3 103 yJ0_indexOf_0f7a4, .code yX10_takeNumber cX10_takeNumber 3 (some .boolean), .methodLink RX10 37 yX10_next, .methodLink RX10 45 yX10_isDigit, .fieldLink RX10 25 "LeftArguments$Tape" "number" "I", .code yX10_sign cX10_sign 1 (some .int), .instanceMethod yX10_sign, .selects RX10 yX10_sign yX10_sign, .methodLink RX10 49 yX10_sign, .methodLink RX10 41 yX10_wrongHere, .instanceMethod yX10_takeNumber, .selects RX10 yX10_takeNumber yX10_takeNumber, .methodLink RX3 95 yX10_takeNumber, .code yX10_number cX10_number 1 (some .int), .instanceMethod yX10_number, .selects RX10 yX10_number yX10_number, .methodLink RX3 98 yX10_number, .code yX3_readSum cX3_readSum 4 (some .boolean), .code yX3_readTerm cX3_readTerm 4 (some .boolean), .code yX3_readAtom cX3_readAtom 4 (some .boolean), .instanceMethod yX3_readAtom, .selects RX3 yX3_readAtom yX3_readAtom, .methodLink RX3 89 yX3_readAtom, .instanceMethod yX3_readTerm, .selects RX3 yX3_readTerm yX3_readTerm, .methodLink RX3 86 yX3_readTerm, .instanceMethod yX3_readSum, .selects RX3 yX3_readSum yX3_readSum, .methodLink RX3 59 yX3_readSum, .code yX10_take cX10_take 2 (some .boolean), .instanceMethod yX10_take, .selects RX10 yX10_take yX10_take, .methodLink RX3 51 yX10_take]) [1, 2, 3, 4, 5, 6, 7, 8, 9, 10, 11, 12, 13, 14, 15, 16, 17, 18, 19, 20, 21, 22, 23, 24, 25, 26, 27, 28, 29, 30, 31, 32, 33, 34, 35, 36, 37, 38, 39, 40, 41, 42, 43, 44, 45, 46, 47, 48, 49, 50, 51, 52, 53, 54, 55, 56, 57, 58, 59, 60, 61, 62, 63, 64, 65, 66, 67, 68, 69, 70, 71, 72, 73, 74, 75, 76, 77, 78, 79, 80, 81, 82, 83, 84, 85, 86, 87, 88, 1, 89, 90, 91, 92, 93, 94, 95, 96, 97, 98, 99, 100, 101] rfl (by decide +kernel)) (goodIn_sub (fun _ h => List.mem_cons_of_mem _ (List.mem_append_left _ (List.mem_append_right _ h))) gwX3)) (goodIn_sub (fun _ h => List.mem_cons_of_mem _ (List.mem_append_right _ h)) gwX10))
set_option maxRecDepth 20000 in
theorem g_X3_readTerm_6_1 : GoodIn q_X3_readTerm_6 (wsV RX3 48 RX10 yX10_next q_X10_next) := goodIn_app (goodIn_r _ [10, 8, 9, 7] rfl (by decide +kernel)) (goodIn_ca (goodIn_r (.code yX10_next cX10_next 1 (some .int) :: [.fieldLink RX10 19 "LeftArguments$Tape" "at" "I", .fieldLink RX10 15 "LeftArguments$Tape" "used" "I", .fieldLink RX10 9 "LeftArguments$Tape" "bytes" "[I"]) [3, 4, 5, 6] rfl (by decide +kernel)) (goodIn_sub (fun _ h => List.mem_cons_of_mem _ (List.mem_append_right _ h)) gwX10))
set_option maxRecDepth 20000 in
theorem g_X3_readTerm_6_2 : GoodIn q_X3_readTerm_6 (wsV RX3 77 RX10 yX10_step q_X10_step) := goodIn_app (goodIn_r _ [17, 15, 16, 7] rfl (by decide +kernel)) (goodIn_ca (goodIn_r (.code yX10_step cX10_step 1 none :: [.fieldLink RX10 19 "LeftArguments$Tape" "at" "I"]) [14, 4] rfl (by decide +kernel)) (goodIn_sub (fun _ h => List.mem_cons_of_mem _ (List.mem_append_right _ h)) gwX10))
set_option maxRecDepth 20000 in
theorem g_X3_readTerm_6_4 : GoodIn q_X3_readTerm_6 (wsV RX3 66 RX3 yX3_write q_X3_write) := goodIn_app (goodIn_r _ [24, 22, 23, 21] rfl (by decide +kernel)) (goodIn_ca (goodIn_r (.code yX3_write cX3_write 3 none :: [.fieldLink RX3 15 "LeftArguments$LawReader" "used" "I", .fieldLink RX3 11 "LeftArguments$LawReader" "code" "[I"]) [18, 19, 20] rfl (by decide +kernel)) (goodIn_sub (fun _ h => List.mem_cons_of_mem _ (List.mem_append_left _ (List.mem_append_right _ h))) gwX3))
set_option maxHeartbeats 4000000 in
set_option maxRecDepth 100000 in
theorem k_X3_readTerm_6 (l : Launch) (dC : Nat → ClassId) (dI : Nat → Nat → Nat) (adK : Nat → Nat) (adV : Nat → Nat) (h0 : Nat) (h1 : Nat) (h2 : Nat) (h3 : Nat) (v0 : Int32) (v1 : Int32) (v2 : Int32) (v3 : Int32) (v4 : Int32) (g0 : ClassId) (f5 : Nat → Int32) (g1 : ClassId) (f6 : Nat → Int32) (i_v0 : 0 ≤ v0.toInt ∧ v0.toInt ≤ 256) (i_v1 : 0 ≤ v1.toInt ∧ v1.toInt ≤ 240) (sz : Nat) : Met l yX3_readTerm q_X3_readTerm_6 ({ frames := 23, cells := 0, slots := 0, locals := 528 }) (va_Pc [.ref h0, .int 0] (fun U => U.heap.size = sz ∧ va_P (dC, dI) vwCl (wd_1ad0248d h0 h1 h3 v0 h1 h2 v1 v2 v3 v4 h2 g0 f5 h3 g1 f6) U.heap ∧ va_K (dC, dI) vwCl [(g0, .int), (g1, .int)] U ∧ va_D (fun _ => True) (wd_1ad0248d h0 h1 h3 v0 h1 h2 v1 v2 v3 v4 h2 g0 f5 h3 g1 f6) ∧ vk_R RX3 101 "zaondt" (adK 2) U ∧ va_Z "java/lang/String" "COMPACT_STRINGS" "Z" (.int 1) (va_A (wd_1ad0248d h0 h1 h3 v0 h1 h2 v1 v2 v3 v4 h2 g0 f5 h3 g1 f6) sz) U U.heap ∧ vk_S 3 pv_len3 pv_byt3 adK adV (va_A (wd_1ad0248d h0 h1 h3 v0 h1 h2 v1 v2 v3 v4 h2 g0 f5 h3 g1 f6) sz) U U.heap)) (va_Qi (fun (r : Int32) (_ : Unit) => 0 ≤ r.toInt ∧ r.toInt ≤ 1) (fun (_ : Unit) (t : State) => ∃ (o_h0_2 : Int32) (o_h1_2 : Int32) (o_h1_3 : Int32) (o_h1_4 : Int32) (o_h3 : Nat → Int32), 0 ≤ o_h0_2.toInt ∧ o_h0_2.toInt ≤ 256 ∧ va_P (dC, dI) vwCl (wd_1ad0248d h0 h1 h3 o_h0_2 h1 h2 v1 o_h1_2 o_h1_3 o_h1_4 h2 g0 f5 h3 g1 o_h3) t.heap ∧ va_K (dC, dI) vwCl [] t ∧ va_D (va_A (wd_1ad0248d h0 h1 h3 v0 h1 h2 v1 v2 v3 v4 h2 g0 f5 h3 g1 f6) sz) (wd_1ad0248d h0 h1 h3 o_h0_2 h1 h2 v1 o_h1_2 o_h1_3 o_h1_4 h2 g0 f5 h3 g1 o_h3)) (va_A (wd_1ad0248d h0 h1 h3 v0 h1 h2 v1 v2 v3 v4 h2 g0 f5 h3 g1 f6) sz)) 0 0 (va_A (wd_1ad0248d h0 h1 h3 v0 h1 h2 v1 v2 v3 v4 h2 g0 f5 h3 g1 f6) sz) := by
  refine Met.ofW (cc := cX3_readTerm) (maxL := 4) (ret := (some .boolean)) (by decide) rfl ?_
  intro p e s m args below meth c s₁ B hml hv
  obtain ⟨i_v0a, i_v0b⟩ := i_v0
  obtain ⟨i_v1a, i_v1b⟩ := i_v1
  obtain ⟨rfl, hsz, hP, hK, hD0, h_vr_2, h_st_CS, h_st_S⟩ := hv
  have hx := B.exec
  have hb := B.bytes
  have hr := B.returns
  have hts := atoms_spec (ws := q_X3_readTerm_6) B.pre
  have hown : s.vm.findClass RX3 = some m.cls := findClass_of_methodNamed B.named
  have hlocks := B.notSynchronized
  subst hsz
  have hD := hD0.self (sz := s.heap.size)
  generalize hAe : va_A (wd_1ad0248d h0 h1 h3 v0 h1 h2 v1 v2 v3 v4 h2 g0 f5 h3 g1 f6) s.heap.size = A at hD h_st_CS h_st_S ⊢
  have hA : ∀ q : Nat, s.heap.size ≤ q → A q := fun q h => by rw [← hAe]; exact Or.inr h
  have hS : va_S A s.heap s.heap [] := va_S.rf
  generalize hQ : (MQ below _ _ s 0 0 A) = Q
  have hl := lv_entry ([.ref h0, .int 0]) (n := 4) (Nat.le_of_ble_eq_true rfl)
  rw [lg_entry_eq]
  generalize (lg_sl ([.ref h0, .int 0]) ++ List.replicate (4 - (lg_sl ([.ref h0, .int 0])).length) Slot.unset).toArray = ls at hl ⊢
  have hl : lv_has ls 4 [(0, .ref h0), (1, .int 0)] := hl
  obtain ⟨H, hH⟩ : ∃ H : Heap, H = s.heap := ⟨_, rfl⟩
  obtain ⟨locs, hlocs⟩ : ∃ y : List Loc, y = [] := ⟨_, rfl⟩
  have hS : va_S A s.heap H locs := by rw [hH, hlocs]; exact va_S.rf
  have hP : va_P (dC, dI) vwCl (wd_1ad0248d h0 h1 h3 v0 h1 h2 v1 v2 v3 v4 h2 g0 f5 h3 g1 f6) H := by rw [hH]; exact hP
  rw [← hH, ← hlocs]
  refine lv_aload_n hx hb dX3_readTerm_0 rfl (lv_at hl 0 rfl) ?_
  refine lv_iload_n hx hb dX3_readTerm_1 rfl (lv_at hl 1 rfl) ?_
  have hPc := hP.sub (ws' := (wd_1ad0248d h0 h1 h3 v0 h1 h2 v1 v2 v3 v4 h2 g0 f5 h3 g1 f6)) [0, 1, 2, 3] rfl
  have hDc := hD.sub (ws' := (wd_1ad0248d h0 h1 h3 v0 h1 h2 v1 v2 v3 v4 h2 g0 f5 h3 g1 f6)) [0, 1, 2, 3] (by decide) rfl
  have hKc := hK.sub (tys' := [(g0, .int), (g1, .int)]) [0, 1] rfl
  have hFc := va_free (wc := (wd_1ad0248d h0 h1 h3 v0 h1 h2 v1 v2 v3 v4 h2 g0 f5 h3 g1 f6)) hD hS hA [0, 1, 2, 3] rfl
  refine va_calli (va_runV (As := [.int 0]) (rest := []) ⟨hx, hb, hml, hown, hts⟩ (k_X3_readAtom_6 l dC dI adK adV h0 h1 h2 h3 v0 v1 v2 v3 v4 g0 f5 g1 f6 ⟨by first | omega | decide, by first | omega | decide⟩ ⟨by first | omega | decide, by first | omega | decide⟩ H.size) (cwV 1 hts g_X3_readTerm_6_0 rfl rfl rfl (by decide +kernel) ⟨Nat.le_of_ble_eq_true rfl, Nat.le_of_ble_eq_true rfl⟩) ⟨fun a U g mk q => by obtain ⟨q0, q1, qP, qK, qD, n0, n1, n2⟩ := q; exact ⟨q0, q1, qP, va_K.moved (u := U) (U := U.calling g mk a) (Vm.Alike.refl U.vm) qK, qD, vk_R.same rfl n0, va_Z.moved (Vm.Alike.refl _) n1, vk_S.moved (Vm.Alike.refl _) n2⟩, va_recv hKc hPc (ci := 3) (q0 := 0) rfl rfl, fun U hU hW => ⟨rfl, by rw [hU], by rw [hU]; exact hPc, va_K.moved hW.alike hKc, hDc.weaken (fun _ _ _ _ => trivial), vk_R.warm hW h_vr_2, (by rw [hU]; exact (va_Z.moved hW.alike (va_Z.kept h_st_CS hS.2.1)).narrow hFc), (by rw [hU]; exact (vk_S.moved hW.alike (vk_S.kept h_st_S hS.2.1)).narrow hFc)⟩⟩ rfl rfl hl.1 rfl (lv_room (Nat.le_of_ble_eq_true rfl)) dX3_readTerm_2 ⟨Nat.le_of_ble_eq_true rfl, Nat.le_of_ble_eq_true rfl⟩) hS (fun q _ h => hFc q h) hFc (fun ra1 u t H1 locs ht hvm hwra1 hB hz1 hk1 hS => ?_)
  obtain ⟨x2, x3, x4, x5, fn6, oa_x2, ob_x2, hP1, hK1, hD1⟩ := hB
  rw [ht] at hP1
  obtain ⟨hP, hD⟩ := va_join (wr := []) (w1 := (wd_1ad0248d h0 h1 h3 x2 h1 h2 v1 x3 x4 x5 h2 g0 f5 h3 g1 fn6)) hP hD [0, 1, 2, 3] [] rfl rfl (by decide) (by decide) hk1 hFc hP1 hD1
  generalize H1 = H at hP hS ⊢
  have hP : va_P (dC, dI) vwCl (wd_1ad0248d h0 h1 h3 x2 h1 h2 v1 x3 x4 x5 h2 g0 f5 h3 g1 fn6) H := hP
  have hD : va_D A (wd_1ad0248d h0 h1 h3 x2 h1 h2 v1 x3 x4 x5 h2 g0 f5 h3 g1 fn6) := hD
  obtain ⟨wa_ra1, wb_ra1⟩ := hwra1
  have wa_ra1 : 0 ≤ ra1.toInt := wa_ra1
  have wb_ra1 : ra1.toInt ≤ 1 := wb_ra1
  refine lv_if_ne (tgt := 10) hx hb dX3_readTerm_5 (by decide) (fun c7 => ?_) (fun c7 => ?_)
  · skip
    have fc7 : ¬ (ra1.toInt = 0) := fun h9 => c7 (Int32.toInt_inj.mp h9)
    refine lv_iconst (v := 0) hx hb dX3_readTerm_10 (by decide) ?_
    refine lv_istore_n (lv' := [(2, .int 0), (0, .ref h0), (1, .int 0)]) hx hb dX3_readTerm_11 rfl hl (by decide) rfl (fun ls hl => ?_)
    have hL122 : ∀ (n9 : Nat), ∀ (x110 : Int32) (x111 : Int32) (x112 : Int32) (x113 : Int32) (x114 : Int32) (fn115 : Nat → Int32) (H : Heap) (locs : List Loc) (ls : Array Slot), 0 ≤ x110.toInt → x110.toInt ≤ 240 → 0 ≤ x111.toInt → x111.toInt ≤ 256 → (240 - x110.toInt).toNat < n9 → va_P (dC, dI) vwCl (wd_1ad0248d h0 h1 h3 x111 h1 h2 v1 x112 x113 x114 h2 g0 f5 h3 g1 fn115) H → va_D A (wd_1ad0248d h0 h1 h3 x111 h1 h2 v1 x112 x113 x114 h2 g0 f5 h3 g1 fn115) → va_S A s.heap H locs → lv_has ls 4 [(2, .int x110), (0, .ref h0), (1, .int 0)] → W p l e ({ frames := 23, cells := 0, slots := 0, locals := 528 }) s m ([.ref h0, .int 0] : List Value).toArray below meth c H locs 0 0 Q (F0 m 12 ls []) := by
      intro n9
      induction n9 with
      | zero => intro x110 x111 x112 x113 x114 fn115 H locs ls qa_x110 qb_x110 qa_x111 qb_x111 hm9 hP hD hS hl; exact absurd hm9 (Nat.not_lt_zero _)
      | succ n9 ih_hL122 =>
        intro x110 x111 x112 x113 x114 fn115 H locs ls qa_x110 qb_x110 qa_x111 qb_x111 hm9 hP hD hS hl
        refine lv_iload_n hx hb dX3_readTerm_12 rfl (lv_at hl 0 rfl) ?_
        refine lv_sipush (v := 240) hx hb dX3_readTerm_13 (by decide) ?_
        refine lv_icmp_ge (tgt := 80) hx hb dX3_readTerm_16 (by decide) (fun c123 => ?_) (fun c123 => ?_)
        · skip
          have fc123 : 240 ≤ x110.toInt := Int32.le_iff_toInt_le.mp c123
          refine lv_iconst (v := 1) hx hb dX3_readTerm_80 (by decide) ?_
          subst hQ
          have hP9 := hP.sub (ws' := (wd_1ad0248d h0 h1 h3 x111 h1 h2 v1 x112 x113 x114 h2 g0 f5 h3 g1 fn115)) [0, 1, 2, 3] rfl
          have hD9 := hD.sub (ws' := (wd_1ad0248d h0 h1 h3 x111 h1 h2 v1 x112 x113 x114 h2 g0 f5 h3 g1 fn115)) [0, 1, 2, 3] (by decide) rfl
          have hK9 := hK.sub (tys' := []) [] rfl
          exact W.zret (v := 1) hx hb hr rfl (fun t ht hW => ⟨⟨1, (), rfl, ⟨by first | omega | decide, by first | omega | decide⟩, x111, x112, x113, x114, fn115, by first | omega | decide, by first | omega | decide, by rw [ht]; exact hP9, va_K.moved hW.alike hK9, hD9⟩, hS.F ht⟩) hS.2.2 dX3_readTerm_81
        · skip
          have fc123 : ¬ (240 ≤ x110.toInt) := fun h9 => c123 (Int32.le_iff_toInt_le.mpr h9)
          refine lv_aload_n hx hb dX3_readTerm_19 rfl (lv_at hl 1 rfl) ?_
          refine va_get (D := (dC, dI)) (ci := 3) (v := .ref h1) (C := RX3) (T := TX3) (N := 3) hx hb hts (fun _ h => List.mem_cons_of_mem _ (List.mem_append_left _ (List.mem_append_right _ h))) hown hK hP 0 rfl rfl 0 (by decide) (hts (.fieldLink RX3 19 "LeftArguments$LawReader" "tape" "LLeftArguments$Tape;") (List.mem_cons_of_mem _ (List.mem_append_left _ (List.mem_append_left _ (List.mem_of_getElem? (i := 1) rfl))))) (fun _ h9 => h9) rfl dX3_readTerm_20 ?_
          have hPc := hP.sub (ws' := (wd_82cdd16b h1 h2 v1 x112 x113 x114 h2 g0 f5)) [1, 2] rfl
          have hDc := hD.sub (ws' := (wd_82cdd16b h1 h2 v1 x112 x113 x114 h2 g0 f5)) [1, 2] (by decide) rfl
          have hKc := hK.sub (tys' := [(g0, .int)]) [0] rfl
          have hFc := va_free (wc := (wd_82cdd16b h1 h2 v1 x112 x113 x114 h2 g0 f5)) hD hS hA [1, 2] rfl
          refine va_calli (va_runV (As := []) (rest := []) ⟨hx, hb, hml, hown, hts⟩ (k_X10_next l dC dI h1 h2 v1 x112 x113 x114 g0 f5 ⟨by first | omega | decide, by first | omega | decide⟩ H.size) (cwV 0 hts g_X3_readTerm_6_1 rfl rfl rfl (by decide +kernel) ⟨Nat.le_of_ble_eq_true rfl, Nat.le_of_ble_eq_true rfl⟩) ⟨fun a U g mk q => by obtain ⟨q0, q1, qP, qK, qD⟩ := q; exact ⟨q0, q1, qP, va_K.moved (u := U) (U := U.calling g mk a) (Vm.Alike.refl U.vm) qK, qD⟩, va_recv hKc hPc (ci := 10) (q0 := 0) rfl rfl, fun U hU hW => ⟨rfl, by rw [hU], by rw [hU]; exact hPc, va_K.moved hW.alike hKc, hDc.weaken (fun _ _ _ _ => trivial)⟩⟩ rfl rfl hl.1 rfl (lv_room (Nat.le_of_ble_eq_true rfl)) dX3_readTerm_23 ⟨Nat.le_of_ble_eq_true rfl, Nat.le_of_ble_eq_true rfl⟩) hS (fun q _ h => hFc q h) hFc (fun ra124 u t H1 locs ht hvm hwra124 hB hz1 hk1 hS => ?_)
          obtain ⟨x125, hP1, hK1, hD1⟩ := hB
          rw [ht] at hP1
          obtain ⟨hP, hD⟩ := va_join (wr := (wd_b958b9da h0 h1 h3 x111 h3 g1 fn115)) (w1 := (wd_82cdd16b h1 h2 v1 x125 x113 x114 h2 g0 f5)) hP hD [1, 2] [0, 3] rfl rfl (by decide) (by decide) hk1 hFc hP1 hD1
          generalize H1 = H at hP hS ⊢
          have hP := hP.sub (ws' := (wd_1ad0248d h0 h1 h3 x111 h1 h2 v1 x125 x113 x114 h2 g0 f5 h3 g1 fn115)) [0, 2, 3, 1] rfl
          have hD := hD.sub (ws' := (wd_1ad0248d h0 h1 h3 x111 h1 h2 v1 x125 x113 x114 h2 g0 f5 h3 g1 fn115)) [0, 2, 3, 1] (by decide) rfl
          have hP : va_P (dC, dI) vwCl (wd_1ad0248d h0 h1 h3 x111 h1 h2 v1 x125 x113 x114 h2 g0 f5 h3 g1 fn115) H := hP
          have hD : va_D A (wd_1ad0248d h0 h1 h3 x111 h1 h2 v1 x125 x113 x114 h2 g0 f5 h3 g1 fn115) := hD
          refine lv_istore_n (lv' := [(3, .int ra124), (2, .int x110), (0, .ref h0), (1, .int 0)]) hx hb dX3_readTerm_26 rfl hl (by decide) rfl (fun ls hl => ?_)
          refine lv_iload_n hx hb dX3_readTerm_27 rfl (lv_at hl 0 rfl) ?_
          refine lv_bipush (v := 42) hx hb dX3_readTerm_28 (by decide) ?_
          refine lv_icmp_eq (tgt := 41) hx hb dX3_readTerm_30 (by decide) (fun c126 => ?_) (fun c126 => ?_)
          · skip
            have fc126 : ra124.toInt = 42 := congrArg Int32.toInt c126
            refine lv_aload_n hx hb dX3_readTerm_41 rfl (lv_at hl 2 rfl) ?_
            refine va_get (D := (dC, dI)) (ci := 3) (v := .ref h1) (C := RX3) (T := TX3) (N := 3) hx hb hts (fun _ h => List.mem_cons_of_mem _ (List.mem_append_left _ (List.mem_append_right _ h))) hown hK hP 0 rfl rfl 0 (by decide) (hts (.fieldLink RX3 19 "LeftArguments$LawReader" "tape" "LLeftArguments$Tape;") (List.mem_cons_of_mem _ (List.mem_append_left _ (List.mem_append_left _ (List.mem_of_getElem? (i := 1) rfl))))) (fun _ h9 => h9) rfl dX3_readTerm_42 ?_
            have hPc := hP.sub (ws' := (wd_09b0abee h1 h2 v1 x125 x113 x114)) [1] rfl
            have hDc := hD.sub (ws' := (wd_09b0abee h1 h2 v1 x125 x113 x114)) [1] (by decide) rfl
            have hKc := hK.sub (tys' := []) [] rfl
            have hFc := va_free (wc := (wd_09b0abee h1 h2 v1 x125 x113 x114)) hD hS hA [1] rfl
            refine va_callv (va_runV (As := []) (rest := []) ⟨hx, hb, hml, hown, hts⟩ (k_X10_step l dC dI h1 h2 v1 x125 x113 x114 ⟨by first | omega | decide, by first | omega | decide⟩ H.size) (cwV 0 hts g_X3_readTerm_6_2 rfl rfl rfl (by decide +kernel) ⟨Nat.le_of_ble_eq_true rfl, Nat.le_of_ble_eq_true rfl⟩) ⟨fun a U g mk q => by obtain ⟨q0, q1, qP, qK, qD⟩ := q; exact ⟨q0, q1, qP, va_K.moved (u := U) (U := U.calling g mk a) (Vm.Alike.refl U.vm) qK, qD⟩, va_recv hKc hPc (ci := 10) (q0 := 0) rfl rfl, fun U hU hW => ⟨rfl, by rw [hU], by rw [hU]; exact hPc, va_K.moved hW.alike hKc, hDc.weaken (fun _ _ _ _ => trivial)⟩⟩ rfl rfl hl.1 rfl (lv_room (Nat.le_of_ble_eq_true rfl)) dX3_readTerm_45 ⟨Nat.le_of_ble_eq_true rfl, Nat.le_of_ble_eq_true rfl⟩) hS (fun q _ h => hFc q h) hFc (fun u t H1 locs ht hvm hwra127 hB hz1 hk1 hS => ?_)
            obtain ⟨x128, hP1, hK1, hD1⟩ := hB
            rw [ht] at hP1
            obtain ⟨hP, hD⟩ := va_join (wr := (wd_6b0d8e05 h0 h1 h3 x111 h2 g0 f5 h3 g1 fn115)) (w1 := (wd_09b0abee h1 h2 v1 x128 x113 x114)) hP hD [1] [0, 2, 3] rfl rfl (by decide) (by decide) hk1 hFc hP1 hD1
            generalize H1 = H at hP hS ⊢
            have hP := hP.sub (ws' := (wd_1ad0248d h0 h1 h3 x111 h1 h2 v1 x128 x113 x114 h2 g0 f5 h3 g1 fn115)) [0, 3, 1, 2] rfl
            have hD := hD.sub (ws' := (wd_1ad0248d h0 h1 h3 x111 h1 h2 v1 x128 x113 x114 h2 g0 f5 h3 g1 fn115)) [0, 3, 1, 2] (by decide) rfl
            have hP : va_P (dC, dI) vwCl (wd_1ad0248d h0 h1 h3 x111 h1 h2 v1 x128 x113 x114 h2 g0 f5 h3 g1 fn115) H := hP
            have hD : va_D A (wd_1ad0248d h0 h1 h3 x111 h1 h2 v1 x128 x113 x114 h2 g0 f5 h3 g1 fn115) := hD
            refine lv_aload_n hx hb dX3_readTerm_48 rfl (lv_at hl 2 rfl) ?_
            refine lv_iload_n hx hb dX3_readTerm_49 rfl (lv_at hl 3 rfl) ?_
            have hPc := hP.sub (ws' := (wd_1ad0248d h0 h1 h3 x111 h1 h2 v1 x128 x113 x114 h2 g0 f5 h3 g1 fn115)) [0, 1, 2, 3] rfl
            have hDc := hD.sub (ws' := (wd_1ad0248d h0 h1 h3 x111 h1 h2 v1 x128 x113 x114 h2 g0 f5 h3 g1 fn115)) [0, 1, 2, 3] (by decide) rfl
            have hKc := hK.sub (tys' := [(g0, .int), (g1, .int)]) [0, 1] rfl
            have hFc := va_free (wc := (wd_1ad0248d h0 h1 h3 x111 h1 h2 v1 x128 x113 x114 h2 g0 f5 h3 g1 fn115)) hD hS hA [0, 1, 2, 3] rfl
            refine va_calli (va_runV (As := [.int 0]) (rest := []) ⟨hx, hb, hml, hown, hts⟩ (k_X3_readAtom_6 l dC dI adK adV h0 h1 h2 h3 x111 v1 x128 x113 x114 g0 f5 g1 fn115 ⟨by first | omega | decide, by first | omega | decide⟩ ⟨by first | omega | decide, by first | omega | decide⟩ H.size) (cwV 1 hts g_X3_readTerm_6_0 rfl rfl rfl (by decide +kernel) ⟨Nat.le_of_ble_eq_true rfl, Nat.le_of_ble_eq_true rfl⟩) ⟨fun a U g mk q => by obtain ⟨q0, q1, qP, qK, qD, n0, n1, n2⟩ := q; exact ⟨q0, q1, qP, va_K.moved (u := U) (U := U.calling g mk a) (Vm.Alike.refl U.vm) qK, qD, vk_R.same rfl n0, va_Z.moved (Vm.Alike.refl _) n1, vk_S.moved (Vm.Alike.refl _) n2⟩, va_recv hKc hPc (ci := 3) (q0 := 0) rfl rfl, fun U hU hW => ⟨rfl, by rw [hU], by rw [hU]; exact hPc, va_K.moved hW.alike hKc, hDc.weaken (fun _ _ _ _ => trivial), vk_R.warm hW h_vr_2, (by rw [hU]; exact (va_Z.moved hW.alike (va_Z.kept h_st_CS hS.2.1)).narrow hFc), (by rw [hU]; exact (vk_S.moved hW.alike (vk_S.kept h_st_S hS.2.1)).narrow hFc)⟩⟩ rfl rfl hl.1 rfl (lv_room (Nat.le_of_ble_eq_true rfl)) dX3_readTerm_50 ⟨Nat.le_of_ble_eq_true rfl, Nat.le_of_ble_eq_true rfl⟩) hS (fun q _ h => hFc q h) hFc (fun ra129 u t H1 locs ht hvm hwra129 hB hz1 hk1 hS => ?_)
            obtain ⟨x130, x131, x132, x133, fn134, oa_x130, ob_x130, hP1, hK1, hD1⟩ := hB
            rw [ht] at hP1
            obtain ⟨hP, hD⟩ := va_join (wr := []) (w1 := (wd_1ad0248d h0 h1 h3 x130 h1 h2 v1 x131 x132 x133 h2 g0 f5 h3 g1 fn134)) hP hD [0, 1, 2, 3] [] rfl rfl (by decide) (by decide) hk1 hFc hP1 hD1
            generalize H1 = H at hP hS ⊢
            have hP : va_P (dC, dI) vwCl (wd_1ad0248d h0 h1 h3 x130 h1 h2 v1 x131 x132 x133 h2 g0 f5 h3 g1 fn134) H := hP
            have hD : va_D A (wd_1ad0248d h0 h1 h3 x130 h1 h2 v1 x131 x132 x133 h2 g0 f5 h3 g1 fn134) := hD
            obtain ⟨wa_ra129, wb_ra129⟩ := hwra129
            have wa_ra129 : 0 ≤ ra129.toInt := wa_ra129
            have wb_ra129 : ra129.toInt ≤ 1 := wb_ra129
            refine lv_if_ne (tgt := 58) hx hb dX3_readTerm_53 (by decide) (fun c135 => ?_) (fun c135 => ?_)
            · skip
              have fc135 : ¬ (ra129.toInt = 0) := fun h9 => c135 (Int32.toInt_inj.mp h9)
              refine lv_aload_n hx hb dX3_readTerm_58 rfl (lv_at hl 2 rfl) ?_
              refine lv_iload_n hx hb dX3_readTerm_59 rfl (lv_at hl 0 rfl) ?_
              refine lv_bipush (v := 42) hx hb dX3_readTerm_60 (by decide) ?_
              refine lv_icmp_ne (tgt := 69) hx hb dX3_readTerm_62 (by decide) (fun c136 => by exfalso; have fc136 : ¬ (ra124.toInt = 42) := fun h9 => c136 (Int32.toInt_inj.mp h9); omega) (fun _ => ?_)
              refine lv_iconst (v := 4) hx hb dX3_readTerm_65 (by decide) ?_
              refine lv_goto (tgt := 70) hx hb dX3_readTerm_66 (by decide) ?_
              refine lv_iconst (v := 0) hx hb dX3_readTerm_70 (by decide) ?_
              have hPc := hP.sub (ws' := (wd_b958b9da h0 h1 h3 x130 h3 g1 fn134)) [0, 3] rfl
              have hDc := hD.sub (ws' := (wd_b958b9da h0 h1 h3 x130 h3 g1 fn134)) [0, 3] (by decide) rfl
              have hKc := hK.sub (tys' := [(g1, .int)]) [1] rfl
              have hFc := va_free (wc := (wd_b958b9da h0 h1 h3 x130 h3 g1 fn134)) hD hS hA [0, 3] rfl
              refine va_callv (va_runV (As := [.int 4, .int 0]) (rest := []) ⟨hx, hb, hml, hown, hts⟩ (k_X3_write l dC dI h0 h3 h1 x130 g1 fn134 4 0 ⟨by first | omega | decide, by first | omega | decide⟩ H.size) (cwV 2 hts g_X3_readTerm_6_4 rfl rfl rfl (by decide +kernel) ⟨Nat.le_of_ble_eq_true rfl, Nat.le_of_ble_eq_true rfl⟩) ⟨fun a U g mk q => by obtain ⟨q0, q1, qP, qK, qD⟩ := q; exact ⟨q0, q1, qP, va_K.moved (u := U) (U := U.calling g mk a) (Vm.Alike.refl U.vm) qK, qD⟩, va_recv hKc hPc (ci := 3) (q0 := 0) rfl rfl, fun U hU hW => ⟨rfl, by rw [hU], by rw [hU]; exact hPc, va_K.moved hW.alike hKc, hDc.weaken (fun _ _ _ _ => trivial)⟩⟩ rfl rfl hl.1 rfl (lv_room (Nat.le_of_ble_eq_true rfl)) dX3_readTerm_71 ⟨Nat.le_of_ble_eq_true rfl, Nat.le_of_ble_eq_true rfl⟩) hS (fun q _ h => hFc q h) hFc (fun u t H1 locs ht hvm hwra137 hB hz1 hk1 hS => ?_)
              obtain ⟨x138, fn139, oa_x138, ob_x138, hP1, hK1, hD1⟩ := hB
              rw [ht] at hP1
              obtain ⟨hP, hD⟩ := va_join (wr := (wd_82cdd16b h1 h2 v1 x131 x132 x133 h2 g0 f5)) (w1 := (wd_b958b9da h0 h1 h3 x138 h3 g1 fn139)) hP hD [0, 3] [1, 2] rfl rfl (by decide) (by decide) hk1 hFc hP1 hD1
              generalize H1 = H at hP hS ⊢
              have hP := hP.sub (ws' := (wd_1ad0248d h0 h1 h3 x138 h1 h2 v1 x131 x132 x133 h2 g0 f5 h3 g1 fn139)) [2, 0, 1, 3] rfl
              have hD := hD.sub (ws' := (wd_1ad0248d h0 h1 h3 x138 h1 h2 v1 x131 x132 x133 h2 g0 f5 h3 g1 fn139)) [2, 0, 1, 3] (by decide) rfl
              have hP : va_P (dC, dI) vwCl (wd_1ad0248d h0 h1 h3 x138 h1 h2 v1 x131 x132 x133 h2 g0 f5 h3 g1 fn139) H := hP
              have hD : va_D A (wd_1ad0248d h0 h1 h3 x138 h1 h2 v1 x131 x132 x133 h2 g0 f5 h3 g1 fn139) := hD
              obtain ⟨t140, et140⟩ : ∃ y : Int32, y = x110 + 1 := ⟨_, rfl⟩
              have gt140 : t140.toInt = x110.toInt + (1) := pv_add (a := x110.toInt) (b := (1)) et140 rfl (by decide) (by omega) (by omega)
              refine lv_iinc (v := t140) (lv' := [(2, .int t140), (3, .int ra124), (0, .ref h0), (1, .int 0)]) hx hb dX3_readTerm_74 hl (k := 1) rfl (by rw [et140]; rfl) (by decide) rfl (fun ls hl => ?_)
              refine lv_goto (tgt := 12) hx hb dX3_readTerm_77 (by decide) ?_
              exact ih_hL122 t140 x138 x131 x132 x133 fn139 H locs ls (by first | omega | decide) (by first | omega | decide) (by first | omega | decide) (by first | omega | decide) (by first | omega | (simp only [Int.toNat] at *; omega)) hP hD hS (lv_sub hl [0, 2, 3] rfl)
            · skip
              have fc135 : ra129.toInt = 0 := congrArg Int32.toInt c135
              refine lv_iconst (v := 0) hx hb dX3_readTerm_56 (by decide) ?_
              subst hQ
              have hP9 := hP.sub (ws' := (wd_1ad0248d h0 h1 h3 x130 h1 h2 v1 x131 x132 x133 h2 g0 f5 h3 g1 fn134)) [0, 1, 2, 3] rfl
              have hD9 := hD.sub (ws' := (wd_1ad0248d h0 h1 h3 x130 h1 h2 v1 x131 x132 x133 h2 g0 f5 h3 g1 fn134)) [0, 1, 2, 3] (by decide) rfl
              have hK9 := hK.sub (tys' := []) [] rfl
              exact W.zret (v := 0) hx hb hr rfl (fun t ht hW => ⟨⟨0, (), rfl, ⟨by first | omega | decide, by first | omega | decide⟩, x130, x131, x132, x133, fn134, by first | omega | decide, by first | omega | decide, by rw [ht]; exact hP9, va_K.moved hW.alike hK9, hD9⟩, hS.F ht⟩) hS.2.2 dX3_readTerm_57
          · skip
            have fc126 : ¬ (ra124.toInt = 42) := fun h9 => c126 (Int32.toInt_inj.mp h9)
            refine lv_iload_n hx hb dX3_readTerm_33 rfl (lv_at hl 0 rfl) ?_
            refine lv_bipush (v := 47) hx hb dX3_readTerm_34 (by decide) ?_
            refine lv_icmp_eq (tgt := 41) hx hb dX3_readTerm_36 (by decide) (fun c141 => ?_) (fun c141 => ?_)
            · skip
              have fc141 : ra124.toInt = 47 := congrArg Int32.toInt c141
              refine lv_aload_n hx hb dX3_readTerm_41 rfl (lv_at hl 2 rfl) ?_
              refine va_get (D := (dC, dI)) (ci := 3) (v := .ref h1) (C := RX3) (T := TX3) (N := 3) hx hb hts (fun _ h => List.mem_cons_of_mem _ (List.mem_append_left _ (List.mem_append_right _ h))) hown hK hP 0 rfl rfl 0 (by decide) (hts (.fieldLink RX3 19 "LeftArguments$LawReader" "tape" "LLeftArguments$Tape;") (List.mem_cons_of_mem _ (List.mem_append_left _ (List.mem_append_left _ (List.mem_of_getElem? (i := 1) rfl))))) (fun _ h9 => h9) rfl dX3_readTerm_42 ?_
              have hPc := hP.sub (ws' := (wd_09b0abee h1 h2 v1 x125 x113 x114)) [1] rfl
              have hDc := hD.sub (ws' := (wd_09b0abee h1 h2 v1 x125 x113 x114)) [1] (by decide) rfl
              have hKc := hK.sub (tys' := []) [] rfl
              have hFc := va_free (wc := (wd_09b0abee h1 h2 v1 x125 x113 x114)) hD hS hA [1] rfl
              refine va_callv (va_runV (As := []) (rest := []) ⟨hx, hb, hml, hown, hts⟩ (k_X10_step l dC dI h1 h2 v1 x125 x113 x114 ⟨by first | omega | decide, by first | omega | decide⟩ H.size) (cwV 0 hts g_X3_readTerm_6_2 rfl rfl rfl (by decide +kernel) ⟨Nat.le_of_ble_eq_true rfl, Nat.le_of_ble_eq_true rfl⟩) ⟨fun a U g mk q => by obtain ⟨q0, q1, qP, qK, qD⟩ := q; exact ⟨q0, q1, qP, va_K.moved (u := U) (U := U.calling g mk a) (Vm.Alike.refl U.vm) qK, qD⟩, va_recv hKc hPc (ci := 10) (q0 := 0) rfl rfl, fun U hU hW => ⟨rfl, by rw [hU], by rw [hU]; exact hPc, va_K.moved hW.alike hKc, hDc.weaken (fun _ _ _ _ => trivial)⟩⟩ rfl rfl hl.1 rfl (lv_room (Nat.le_of_ble_eq_true rfl)) dX3_readTerm_45 ⟨Nat.le_of_ble_eq_true rfl, Nat.le_of_ble_eq_true rfl⟩) hS (fun q _ h => hFc q h) hFc (fun u t H1 locs ht hvm hwra142 hB hz1 hk1 hS => ?_)
              obtain ⟨x143, hP1, hK1, hD1⟩ := hB
              rw [ht] at hP1
              obtain ⟨hP, hD⟩ := va_join (wr := (wd_6b0d8e05 h0 h1 h3 x111 h2 g0 f5 h3 g1 fn115)) (w1 := (wd_09b0abee h1 h2 v1 x143 x113 x114)) hP hD [1] [0, 2, 3] rfl rfl (by decide) (by decide) hk1 hFc hP1 hD1
              generalize H1 = H at hP hS ⊢
              have hP := hP.sub (ws' := (wd_1ad0248d h0 h1 h3 x111 h1 h2 v1 x143 x113 x114 h2 g0 f5 h3 g1 fn115)) [0, 3, 1, 2] rfl
              have hD := hD.sub (ws' := (wd_1ad0248d h0 h1 h3 x111 h1 h2 v1 x143 x113 x114 h2 g0 f5 h3 g1 fn115)) [0, 3, 1, 2] (by decide) rfl
              have hP : va_P (dC, dI) vwCl (wd_1ad0248d h0 h1 h3 x111 h1 h2 v1 x143 x113 x114 h2 g0 f5 h3 g1 fn115) H := hP
              have hD : va_D A (wd_1ad0248d h0 h1 h3 x111 h1 h2 v1 x143 x113 x114 h2 g0 f5 h3 g1 fn115) := hD
              refine lv_aload_n hx hb dX3_readTerm_48 rfl (lv_at hl 2 rfl) ?_
              refine lv_iload_n hx hb dX3_readTerm_49 rfl (lv_at hl 3 rfl) ?_
              have hPc := hP.sub (ws' := (wd_1ad0248d h0 h1 h3 x111 h1 h2 v1 x143 x113 x114 h2 g0 f5 h3 g1 fn115)) [0, 1, 2, 3] rfl
              have hDc := hD.sub (ws' := (wd_1ad0248d h0 h1 h3 x111 h1 h2 v1 x143 x113 x114 h2 g0 f5 h3 g1 fn115)) [0, 1, 2, 3] (by decide) rfl
              have hKc := hK.sub (tys' := [(g0, .int), (g1, .int)]) [0, 1] rfl
              have hFc := va_free (wc := (wd_1ad0248d h0 h1 h3 x111 h1 h2 v1 x143 x113 x114 h2 g0 f5 h3 g1 fn115)) hD hS hA [0, 1, 2, 3] rfl
              refine va_calli (va_runV (As := [.int 0]) (rest := []) ⟨hx, hb, hml, hown, hts⟩ (k_X3_readAtom_6 l dC dI adK adV h0 h1 h2 h3 x111 v1 x143 x113 x114 g0 f5 g1 fn115 ⟨by first | omega | decide, by first | omega | decide⟩ ⟨by first | omega | decide, by first | omega | decide⟩ H.size) (cwV 1 hts g_X3_readTerm_6_0 rfl rfl rfl (by decide +kernel) ⟨Nat.le_of_ble_eq_true rfl, Nat.le_of_ble_eq_true rfl⟩) ⟨fun a U g mk q => by obtain ⟨q0, q1, qP, qK, qD, n0, n1, n2⟩ := q; exact ⟨q0, q1, qP, va_K.moved (u := U) (U := U.calling g mk a) (Vm.Alike.refl U.vm) qK, qD, vk_R.same rfl n0, va_Z.moved (Vm.Alike.refl _) n1, vk_S.moved (Vm.Alike.refl _) n2⟩, va_recv hKc hPc (ci := 3) (q0 := 0) rfl rfl, fun U hU hW => ⟨rfl, by rw [hU], by rw [hU]; exact hPc, va_K.moved hW.alike hKc, hDc.weaken (fun _ _ _ _ => trivial), vk_R.warm hW h_vr_2, (by rw [hU]; exact (va_Z.moved hW.alike (va_Z.kept h_st_CS hS.2.1)).narrow hFc), (by rw [hU]; exact (vk_S.moved hW.alike (vk_S.kept h_st_S hS.2.1)).narrow hFc)⟩⟩ rfl rfl hl.1 rfl (lv_room (Nat.le_of_ble_eq_true rfl)) dX3_readTerm_50 ⟨Nat.le_of_ble_eq_true rfl, Nat.le_of_ble_eq_true rfl⟩) hS (fun q _ h => hFc q h) hFc (fun ra144 u t H1 locs ht hvm hwra144 hB hz1 hk1 hS => ?_)
              obtain ⟨x145, x146, x147, x148, fn149, oa_x145, ob_x145, hP1, hK1, hD1⟩ := hB
              rw [ht] at hP1
              obtain ⟨hP, hD⟩ := va_join (wr := []) (w1 := (wd_1ad0248d h0 h1 h3 x145 h1 h2 v1 x146 x147 x148 h2 g0 f5 h3 g1 fn149)) hP hD [0, 1, 2, 3] [] rfl rfl (by decide) (by decide) hk1 hFc hP1 hD1
              generalize H1 = H at hP hS ⊢
              have hP : va_P (dC, dI) vwCl (wd_1ad0248d h0 h1 h3 x145 h1 h2 v1 x146 x147 x148 h2 g0 f5 h3 g1 fn149) H := hP
              have hD : va_D A (wd_1ad0248d h0 h1 h3 x145 h1 h2 v1 x146 x147 x148 h2 g0 f5 h3 g1 fn149) := hD
              obtain ⟨wa_ra144, wb_ra144⟩ := hwra144
              have wa_ra144 : 0 ≤ ra144.toInt := wa_ra144
              have wb_ra144 : ra144.toInt ≤ 1 := wb_ra144
              refine lv_if_ne (tgt := 58) hx hb dX3_readTerm_53 (by decide) (fun c150 => ?_) (fun c150 => ?_)
              · skip
                have fc150 : ¬ (ra144.toInt = 0) := fun h9 => c150 (Int32.toInt_inj.mp h9)
                refine lv_aload_n hx hb dX3_readTerm_58 rfl (lv_at hl 2 rfl) ?_
                refine lv_iload_n hx hb dX3_readTerm_59 rfl (lv_at hl 0 rfl) ?_
                refine lv_bipush (v := 42) hx hb dX3_readTerm_60 (by decide) ?_
                refine lv_icmp_ne (tgt := 69) hx hb dX3_readTerm_62 (by decide) (fun _ => ?_) (fun c151 => by exfalso; have fc151 : ra124.toInt = 42 := congrArg Int32.toInt c151; omega)
                refine lv_iconst (v := 5) hx hb dX3_readTerm_69 (by decide) ?_
                refine lv_iconst (v := 0) hx hb dX3_readTerm_70 (by decide) ?_
                have hPc := hP.sub (ws' := (wd_b958b9da h0 h1 h3 x145 h3 g1 fn149)) [0, 3] rfl
                have hDc := hD.sub (ws' := (wd_b958b9da h0 h1 h3 x145 h3 g1 fn149)) [0, 3] (by decide) rfl
                have hKc := hK.sub (tys' := [(g1, .int)]) [1] rfl
                have hFc := va_free (wc := (wd_b958b9da h0 h1 h3 x145 h3 g1 fn149)) hD hS hA [0, 3] rfl
                refine va_callv (va_runV (As := [.int 5, .int 0]) (rest := []) ⟨hx, hb, hml, hown, hts⟩ (k_X3_write l dC dI h0 h3 h1 x145 g1 fn149 5 0 ⟨by first | omega | decide, by first | omega | decide⟩ H.size) (cwV 2 hts g_X3_readTerm_6_4 rfl rfl rfl (by decide +kernel) ⟨Nat.le_of_ble_eq_true rfl, Nat.le_of_ble_eq_true rfl⟩) ⟨fun a U g mk q => by obtain ⟨q0, q1, qP, qK, qD⟩ := q; exact ⟨q0, q1, qP, va_K.moved (u := U) (U := U.calling g mk a) (Vm.Alike.refl U.vm) qK, qD⟩, va_recv hKc hPc (ci := 3) (q0 := 0) rfl rfl, fun U hU hW => ⟨rfl, by rw [hU], by rw [hU]; exact hPc, va_K.moved hW.alike hKc, hDc.weaken (fun _ _ _ _ => trivial)⟩⟩ rfl rfl hl.1 rfl (lv_room (Nat.le_of_ble_eq_true rfl)) dX3_readTerm_71 ⟨Nat.le_of_ble_eq_true rfl, Nat.le_of_ble_eq_true rfl⟩) hS (fun q _ h => hFc q h) hFc (fun u t H1 locs ht hvm hwra152 hB hz1 hk1 hS => ?_)
                obtain ⟨x153, fn154, oa_x153, ob_x153, hP1, hK1, hD1⟩ := hB
                rw [ht] at hP1
                obtain ⟨hP, hD⟩ := va_join (wr := (wd_82cdd16b h1 h2 v1 x146 x147 x148 h2 g0 f5)) (w1 := (wd_b958b9da h0 h1 h3 x153 h3 g1 fn154)) hP hD [0, 3] [1, 2] rfl rfl (by decide) (by decide) hk1 hFc hP1 hD1
                generalize H1 = H at hP hS ⊢
                have hP := hP.sub (ws' := (wd_1ad0248d h0 h1 h3 x153 h1 h2 v1 x146 x147 x148 h2 g0 f5 h3 g1 fn154)) [2, 0, 1, 3] rfl
                have hD := hD.sub (ws' := (wd_1ad0248d h0 h1 h3 x153 h1 h2 v1 x146 x147 x148 h2 g0 f5 h3 g1 fn154)) [2, 0, 1, 3] (by decide) rfl
                have hP : va_P (dC, dI) vwCl (wd_1ad0248d h0 h1 h3 x153 h1 h2 v1 x146 x147 x148 h2 g0 f5 h3 g1 fn154) H := hP
                have hD : va_D A (wd_1ad0248d h0 h1 h3 x153 h1 h2 v1 x146 x147 x148 h2 g0 f5 h3 g1 fn154) := hD
                obtain ⟨t155, et155⟩ : ∃ y : Int32, y = x110 + 1 := ⟨_, rfl⟩
                have gt155 : t155.toInt = x110.toInt + (1) := pv_add (a := x110.toInt) (b := (1)) et155 rfl (by decide) (by omega) (by omega)
                refine lv_iinc (v := t155) (lv' := [(2, .int t155), (3, .int ra124), (0, .ref h0), (1, .int 0)]) hx hb dX3_readTerm_74 hl (k := 1) rfl (by rw [et155]; rfl) (by decide) rfl (fun ls hl => ?_)
                refine lv_goto (tgt := 12) hx hb dX3_readTerm_77 (by decide) ?_
                exact ih_hL122 t155 x153 x146 x147 x148 fn154 H locs ls (by first | omega | decide) (by first | omega | decide) (by first | omega | decide) (by first | omega | decide) (by first | omega | (simp only [Int.toNat] at *; omega)) hP hD hS (lv_sub hl [0, 2, 3] rfl)
              · skip
                have fc150 : ra144.toInt = 0 := congrArg Int32.toInt c150
                refine lv_iconst (v := 0) hx hb dX3_readTerm_56 (by decide) ?_
                subst hQ
                have hP9 := hP.sub (ws' := (wd_1ad0248d h0 h1 h3 x145 h1 h2 v1 x146 x147 x148 h2 g0 f5 h3 g1 fn149)) [0, 1, 2, 3] rfl
                have hD9 := hD.sub (ws' := (wd_1ad0248d h0 h1 h3 x145 h1 h2 v1 x146 x147 x148 h2 g0 f5 h3 g1 fn149)) [0, 1, 2, 3] (by decide) rfl
                have hK9 := hK.sub (tys' := []) [] rfl
                exact W.zret (v := 0) hx hb hr rfl (fun t ht hW => ⟨⟨0, (), rfl, ⟨by first | omega | decide, by first | omega | decide⟩, x145, x146, x147, x148, fn149, by first | omega | decide, by first | omega | decide, by rw [ht]; exact hP9, va_K.moved hW.alike hK9, hD9⟩, hS.F ht⟩) hS.2.2 dX3_readTerm_57
            · skip
              have fc141 : ¬ (ra124.toInt = 47) := fun h9 => c141 (Int32.toInt_inj.mp h9)
              refine lv_iconst (v := 1) hx hb dX3_readTerm_39 (by decide) ?_
              subst hQ
              have hP9 := hP.sub (ws' := (wd_1ad0248d h0 h1 h3 x111 h1 h2 v1 x125 x113 x114 h2 g0 f5 h3 g1 fn115)) [0, 1, 2, 3] rfl
              have hD9 := hD.sub (ws' := (wd_1ad0248d h0 h1 h3 x111 h1 h2 v1 x125 x113 x114 h2 g0 f5 h3 g1 fn115)) [0, 1, 2, 3] (by decide) rfl
              have hK9 := hK.sub (tys' := []) [] rfl
              exact W.zret (v := 1) hx hb hr rfl (fun t ht hW => ⟨⟨1, (), rfl, ⟨by first | omega | decide, by first | omega | decide⟩, x111, x125, x113, x114, fn115, by first | omega | decide, by first | omega | decide, by rw [ht]; exact hP9, va_K.moved hW.alike hK9, hD9⟩, hS.F ht⟩) hS.2.2 dX3_readTerm_40
    exact hL122 _ 0 x2 x3 x4 x5 fn6 H locs ls (by first | omega | decide) (by first | omega | decide) (by first | omega | decide) (by first | omega | decide) (Nat.lt_succ_self _) hP hD hS (lv_sub hl [0, 1, 2] rfl)
  · skip
    have fc7 : ra1.toInt = 0 := congrArg Int32.toInt c7
    refine lv_iconst (v := 0) hx hb dX3_readTerm_8 (by decide) ?_
    subst hQ
    have hP9 := hP.sub (ws' := (wd_1ad0248d h0 h1 h3 x2 h1 h2 v1 x3 x4 x5 h2 g0 f5 h3 g1 fn6)) [0, 1, 2, 3] rfl
    have hD9 := hD.sub (ws' := (wd_1ad0248d h0 h1 h3 x2 h1 h2 v1 x3 x4 x5 h2 g0 f5 h3 g1 fn6)) [0, 1, 2, 3] (by decide) rfl
    have hK9 := hK.sub (tys' := []) [] rfl
    exact W.zret (v := 0) hx hb hr rfl (fun t ht hW => ⟨⟨0, (), rfl, ⟨by first | omega | decide, by first | omega | decide⟩, x2, x3, x4, x5, fn6, by first | omega | decide, by first | omega | decide, by rw [ht]; exact hP9, va_K.moved hW.alike hK9, hD9⟩, hS.F ht⟩) hS.2.2 dX3_readTerm_9
def q_X3_readSum_6 : List Cond := .code yX3_readSum cX3_readSum 4 (some .boolean) :: (([.code yX3_readTerm cX3_readTerm 4 (some .boolean), .code yX3_readAtom cX3_readAtom 4 (some .boolean), .fieldLink RX3 19 "LeftArguments$LawReader" "tape" "LLeftArguments$Tape;", .code yX10_next cX10_next 1 (some .int), .fieldLink RX10 19 "LeftArguments$Tape" "at" "I", .fieldLink RX10 15 "LeftArguments$Tape" "used" "I", .fieldLink RX10 9 "LeftArguments$Tape" "bytes" "[I", .initialized RX10, .instanceMethod yX10_next, .selects RX10 yX10_next yX10_next, .methodLink RX3 48 yX10_next, .code yX10_isDigit cX10_isDigit 1 (some .boolean), .static yX10_isDigit, .methodLink RX3 92 yX10_isDigit, .code yX10_step cX10_step 1 none, .instanceMethod yX10_step, .selects RX10 yX10_step yX10_step, .methodLink RX3 77 yX10_step, .code yX3_write cX3_write 3 none, .fieldLink RX3 15 "LeftArguments$LawReader" "used" "I", .fieldLink RX3 11 "LeftArguments$LawReader" "code" "[I", .initialized RX3, .instanceMethod yX3_write, .selects RX3 yX3_write yX3_write, .methodLink RX3 66 yX3_write, .code yX10_wrongHere cX10_wrongHere 1 (some .boolean), .fieldLink RX10 22 "LeftArguments$Tape" "wrongAt" "I", .instanceMethod yX10_wrongHere, .selects RX10 yX10_wrongHere yX10_wrongHere, .methodLink RX3 83 yX10_wrongHere, .code yJ0_indexOf_0f7a4 cJ0_indexOf_0f7a4 2 (some .int), .code yJ0_indexOf_7cf53 cJ0_indexOf_7cf53 3 (some .int), .code yJ0_isLatin1_aae02 cJ0_isLatin1_aae02 1 (some .boolean), .fieldLink RJ0 38 "java/lang/String" "COMPACT_STRINGS" "Z", .fieldLink RJ0 15 "java/lang/String" "coder" "B", .initialized RJ0, .instanceMethod yJ0_isLatin1_aae02, .selects RJ0 yJ0_isLatin1_aae02 yJ0_isLatin1_aae02, .methodLink RJ0 492 yJ0_isLatin1_aae02, .fieldLink RJ0 9 "java/lang/String" "value" "[B", .code yJ0_length_8abf5 cJ0_length_8abf5 1 (some .int), .code yJ0_coder_7d493 cJ0_coder_7d493 1 (some .byte), .instanceMethod yJ0_coder_7d493, .selects RJ0 yJ0_coder_7d493 yJ0_coder_7d493, .methodLink RJ0 335 yJ0_coder_7d493, .instanceMethod yJ0_length_8abf5, .selects RJ0 yJ0_length_8abf5 yJ0_length_8abf5, .methodLink RJ0 505 yJ0_length_8abf5, .code yJ1_indexOf_4cfef cJ1_indexOf_4cfef 4 (some .int), .code yJ1_canEncode_9a6ad cJ1_canEncode_9a6ad 1 (some .boolean), .initialized RJ1, .static yJ1_canEncode_9a6ad, .methodLink RJ1 88 yJ1_canEncode_9a6ad, .methodLink RJ1 92 Lib.Math.max.name, .static Lib.Math.max.name, .initialized "java/lang/Math", .code Lib.Math.max.name Lib.Math.max.code 2 (some .int), .methodLink RJ1 38 Lib.Math.min.name, .static Lib.Math.min.name, .code Lib.Math.min.name Lib.Math.min.code 2 (some .int), .code yJ1_indexOfChar_4cfef cJ1_indexOfChar_4cfef 6 (some .int), .static yJ1_indexOfChar_4cfef, .methodLink RJ1 95 yJ1_indexOfChar_4cfef, .static yJ1_indexOf_4cfef, .methodLink RJ0 637 yJ1_indexOf_4cfef, .instanceMethod yJ0_indexOf_7cf53, .selects RJ0 yJ0_indexOf_7cf53 yJ0_indexOf_7cf53, .methodLink RJ0 633 yJ0_indexOf_7cf53, .instanceMethod yJ0_indexOf_0f7a4, .selects RJ0 yJ0_indexOf_0f7a4 yJ0_indexOf_0f7a4, .methodLink RX3 103 yJ0_indexOf_0f7a4, .code yX10_takeNumber cX10_takeNumber 3 (some .boolean), .methodLink RX10 37 yX10_next, .methodLink RX10 45 yX10_isDigit, .fieldLink RX10 25 "LeftArguments$Tape" "number" "I", .code yX10_sign cX10_sign 1 (some .int), .instanceMethod yX10_sign, .selects RX10 yX10_sign yX10_sign, .methodLink RX10 49 yX10_sign, .methodLink RX10 41 yX10_wrongHere, .instanceMethod yX10_takeNumber, .selects RX10 yX10_takeNumber yX10_takeNumber, .methodLink RX3 95 yX10_takeNumber, .code yX10_number cX10_number 1 (some .int), .instanceMethod yX10_number, .selects RX10 yX10_number yX10_number, .methodLink RX3 98 yX10_number, .code yX3_readSum cX3_readSum 4 (some .boolean), .instanceMethod yX3_readAtom, .selects RX3 yX3_readAtom yX3_readAtom, .methodLink RX3 89 yX3_readAtom, .instanceMethod yX3_readTerm, .selects RX3 yX3_readTerm yX3_readTerm, .methodLink RX3 86 yX3_readTerm, .instanceMethod yX3_readSum, .selects RX3 yX3_readSum yX3_readSum, .methodLink RX3 59 yX3_readSum, .code yX10_take cX10_take 2 (some .boolean), .instanceMethod yX10_take, .selects RX10 yX10_take yX10_take, .methodLink RX3 51 yX10_take] : List Cond) ++ wsX30 ++ wsX100)
set_option maxRecDepth 20000 in
theorem g_X3_readSum_6_0 : GoodIn q_X3_readSum_6 (wsV RX3 86 RX3 yX3_readTerm q_X3_readTerm_6) := goodIn_app (goodIn_r _ [94, 92, 93, 22] rfl (by decide +kernel)) (goodIn_ca (goodIn_ca (goodIn_r (.code yX3_readTerm cX3_readTerm 4 (some .boolean) :: [.code yX3_readAtom cX3_readAtom 4 (some .boolean), .fieldLink RX3 19 "LeftArguments$LawReader" "tape" "LLeftArguments$Tape;", .code yX10_next cX10_next 1 (some .int), .fieldLink RX10 19 "LeftArguments$Tape" "at" "I", .fieldLink RX10 15 "LeftArguments$Tape" "used" "I", .fieldLink RX10 9 "LeftArguments$Tape" "bytes" "[I", .initialized RX10, .instanceMethod yX10_next, .selects RX10 yX10_next yX10_next, .methodLink RX3 48 yX10_next, .code yX10_isDigit cX10_isDigit 1 (some .boolean), .static yX10_isDigit, .methodLink RX3 92 yX10_isDigit, .code yX10_step cX10_step 1 none, .instanceMethod yX10_step, .selects RX10 yX10_step yX10_step, .methodLink RX3 77 yX10_step, .code yX3_write cX3_write 3 none, .fieldLink RX3 15 "LeftArguments$LawReader" "used" "I", .fieldLink RX3 11 "LeftArguments$LawReader" "code" "[I", .initialized RX3, .instanceMethod yX3_write, .selects RX3 yX3_write yX3_write, .methodLink RX3 66 yX3_write, .code yX10_wrongHere cX10_wrongHere 1 (some .boolean), .fieldLink RX10 22 "LeftArguments$Tape" "wrongAt" "I", .instanceMethod yX10_wrongHere, .selects RX10 yX10_wrongHere yX10_wrongHere, .methodLink RX3 83 yX10_wrongHere, .code yJ0_indexOf_0f7a4 cJ0_indexOf_0f7a4 2 (some .int), .code yJ0_indexOf_7cf53 cJ0_indexOf_7cf53 3 (some .int), .code yJ0_isLatin1_aae02 cJ0_isLatin1_aae02 1 (some .boolean), .fieldLink RJ0 38 "java/lang/String" "COMPACT_STRINGS" "Z", .fieldLink RJ0 15 "java/lang/String" "coder" "B", .initialized RJ0, .instanceMethod yJ0_isLatin1_aae02, .selects RJ0 yJ0_isLatin1_aae02 yJ0_isLatin1_aae02, .methodLink RJ0 492 yJ0_isLatin1_aae02, .fieldLink RJ0 9 "java/lang/String" "value" "[B", .code yJ0_length_8abf5 cJ0_length_8abf5 1 (some .int), .code yJ0_coder_7d493 cJ0_coder_7d493 1 (some .byte), .instanceMethod yJ0_coder_7d493, .selects RJ0 yJ0_coder_7d493 yJ0_coder_7d493, .methodLink RJ0 335 yJ0_coder_7d493, .instanceMethod yJ0_length_8abf5, .selects RJ0 yJ0_length_8abf5 yJ0_length_8abf5, .methodLink RJ0 505 yJ0_length_8abf5, .code yJ1_indexOf_4cfef cJ1_indexOf_4cfef 4 (some .int), .code yJ1_canEncode_9a6ad cJ1_canEncode_9a6ad 1 (some .boolean), .initialized RJ1, .static yJ1_canEncode_9a6ad, .methodLink RJ1 88 yJ1_canEncode_9a6ad, .methodLink RJ1 92 Lib.Math.max.name, .static Lib.Math.max.name, .initialized "java/lang/Math", .code Lib.Math.max.name Lib.Math.max.code 2 (some .int), .methodLink RJ1 38 Lib.Math.min.name, .static Lib.Math.min.name, .code Lib.Math.min.name Lib.Math.min.code 2 (some .int), .code yJ1_indexOfChar_4cfef cJ1_indexOfChar_4cfef 6 (some .int), .static yJ1_indexOfChar_4cfef, .methodLink RJ1 95 yJ1_indexOfChar_4cfef, .static yJ1_indexOf_4cfef, .methodLink RJ0 637 yJ1_indexOf_4cfef, .instanceMethod yJ0_indexOf_7cf53, .selects RJ0 yJ0_indexOf_7cf53 yJ0_indexOf_7cf53, .methodLink RJ0 633 yJ0_indexOf_7cf53, .instanceMethod yJ0_indexOf_0f7a4, .selects RJ0 yJ0_indexOf_0f7a4 yJ0_indexOf_0f7a4, .methodLink RX3 103 yJ0_indexOf_0f7a4, .code yX10_takeNumber cX10_takeNumber 3 (some .boolean), .methodLink RX10 37 yX10_next, .methodLink RX10 45 yX10_isDigit, .fieldLink RX10 25 "LeftArguments$Tape" "number" "I", .code yX10_sign cX10_sign 1 (some .int), .instanceMethod yX10_sign, .selects RX10 yX10_sign yX10_sign, .methodLink RX10 49 yX10_sign, .methodLink RX10 41 yX10_wrongHere, .instanceMethod yX10_takeNumber, .selects RX10 yX10_takeNumber yX10_takeNumber, .methodLink RX3 95 yX10_takeNumber, .code yX10_number cX10_number 1 (some .int), .instanceMethod yX10_number, .selects RX10 yX10_number yX10_number, .methodLink RX3 98 yX10_number, .code yX3_readSum cX3_readSum 4 (some .boolean), .code yX3_readTerm cX3_readTerm 4 (some .boolean), .instanceMethod yX3_readAtom, .selects RX3 yX3_readAtom yX3_readAtom, .methodLink RX3 89 yX3_readAtom, .instanceMethod yX3_readTerm, .selects RX3 yX3_readTerm yX3_readTerm, .methodLink RX3 86 yX3_readTerm, .instanceMethod yX3_readSum, .selects RX3 yX3_readSum yX3_readSum, .methodLink RX3 59 yX3_readSum, .code yX10_take cX10_take 2 (some .boolean), .instanceMethod yX10_take, .selects RX10 yX10_take yX10_take, .methodLink RX3 51 yX10_take]) [1, 2, 3, 4, 5, 6, 7, 8, 9, 10, 11, 12, 13, 14, 15, 16, 17, 18, 19, 20, 21, 22, 23, 24, 25, 26, 27, 28, 29, 30, 31, 32, 33, 34, 35, 36, 37, 38, 39, 40, 41, 42, 43, 44, 45, 46, 47, 48, 49, 50, 51, 52, 53, 54, 55, 56, 57, 58, 59, 60, 61, 62, 63, 64, 65, 66, 67, 68, 69, 70, 71, 72, 73, 74, 75, 76, 77, 78, 79, 80, 81, 82, 83, 84, 85, 86, 87, 88, 1, 89, 90, 91, 92, 93, 94, 95, 96, 97, 98, 99, 100, 101] rfl (by decide +kernel)) (goodIn_sub (fun _ h => List.mem_cons_of_mem _ (List.mem_append_left _ (List.mem_append_right _ h))) gwX3)) (goodIn_sub (fun _ h => List.mem_cons_of_mem _ (List.mem_append_right _ h)) gwX10))
set_option maxRecDepth 20000 in
theorem g_X3_readSum_6_1 : GoodIn q_X3_readSum_6 (wsV RX3 48 RX10 yX10_next q_X10_next) := goodIn_app (goodIn_r _ [11, 9, 10, 8] rfl (by decide +kernel)) (goodIn_ca (goodIn_r (.code yX10_next cX10_next 1 (some .int) :: [.fieldLink RX10 19 "LeftArguments$Tape" "at" "I", .fieldLink RX10 15 "LeftArguments$Tape" "used" "I", .fieldLink RX10 9 "LeftArguments$Tape" "bytes" "[I"]) [4, 5, 6, 7] rfl (by decide +kernel)) (goodIn_sub (fun _ h => List.mem_cons_of_mem _ (List.mem_append_right _ h)) gwX10))
set_option maxRecDepth 20000 in
theorem g_X3_readSum_6_2 : GoodIn q_X3_readSum_6 (wsV RX3 77 RX10 yX10_step q_X10_step) := goodIn_app (goodIn_r _ [18, 16, 17, 8] rfl (by decide +kernel)) (goodIn_ca (goodIn_r (.code yX10_step cX10_step 1 none :: [.fieldLink RX10 19 "LeftArguments$Tape" "at" "I"]) [15, 5] rfl (by decide +kernel)) (goodIn_sub (fun _ h => List.mem_cons_of_mem _ (List.mem_append_right _ h)) gwX10))
set_option maxRecDepth 20000 in
theorem g_X3_readSum_6_4 : GoodIn q_X3_readSum_6 (wsV RX3 66 RX3 yX3_write q_X3_write) := goodIn_app (goodIn_r _ [25, 23, 24, 22] rfl (by decide +kernel)) (goodIn_ca (goodIn_r (.code yX3_write cX3_write 3 none :: [.fieldLink RX3 15 "LeftArguments$LawReader" "used" "I", .fieldLink RX3 11 "LeftArguments$LawReader" "code" "[I"]) [19, 20, 21] rfl (by decide +kernel)) (goodIn_sub (fun _ h => List.mem_cons_of_mem _ (List.mem_append_left _ (List.mem_append_right _ h))) gwX3))
set_option maxHeartbeats 4000000 in
set_option maxRecDepth 100000 in
theorem k_X3_readSum_6 (l : Launch) (dC : Nat → ClassId) (dI : Nat → Nat → Nat) (adK : Nat → Nat) (adV : Nat → Nat) (h0 : Nat) (h1 : Nat) (h2 : Nat) (h3 : Nat) (v0 : Int32) (v1 : Int32) (v2 : Int32) (v3 : Int32) (v4 : Int32) (g0 : ClassId) (f5 : Nat → Int32) (g1 : ClassId) (f6 : Nat → Int32) (i_v0 : 0 ≤ v0.toInt ∧ v0.toInt ≤ 256) (i_v1 : 0 ≤ v1.toInt ∧ v1.toInt ≤ 240) (sz : Nat) : Met l yX3_readSum q_X3_readSum_6 ({ frames := 24, cells := 0, slots := 0, locals := 551 }) (va_Pc [.ref h0, .int 0] (fun U => U.heap.size = sz ∧ va_P (dC, dI) vwCl (wd_1ad0248d h0 h1 h3 v0 h1 h2 v1 v2 v3 v4 h2 g0 f5 h3 g1 f6) U.heap ∧ va_K (dC, dI) vwCl [(g0, .int), (g1, .int)] U ∧ va_D (fun _ => True) (wd_1ad0248d h0 h1 h3 v0 h1 h2 v1 v2 v3 v4 h2 g0 f5 h3 g1 f6) ∧ vk_R RX3 101 "zaondt" (adK 2) U ∧ va_Z "java/lang/String" "COMPACT_STRINGS" "Z" (.int 1) (va_A (wd_1ad0248d h0 h1 h3 v0 h1 h2 v1 v2 v3 v4 h2 g0 f5 h3 g1 f6) sz) U U.heap ∧ vk_S 3 pv_len3 pv_byt3 adK adV (va_A (wd_1ad0248d h0 h1 h3 v0 h1 h2 v1 v2 v3 v4 h2 g0 f5 h3 g1 f6) sz) U U.heap)) (va_Qi (fun (r : Int32) (_ : Unit) => 0 ≤ r.toInt ∧ r.toInt ≤ 1) (fun (_ : Unit) (t : State) => ∃ (o_h0_2 : Int32) (o_h1_2 : Int32) (o_h1_3 : Int32) (o_h1_4 : Int32) (o_h3 : Nat → Int32), 0 ≤ o_h0_2.toInt ∧ o_h0_2.toInt ≤ 256 ∧ va_P (dC, dI) vwCl (wd_1ad0248d h0 h1 h3 o_h0_2 h1 h2 v1 o_h1_2 o_h1_3 o_h1_4 h2 g0 f5 h3 g1 o_h3) t.heap ∧ va_K (dC, dI) vwCl [] t ∧ va_D (va_A (wd_1ad0248d h0 h1 h3 v0 h1 h2 v1 v2 v3 v4 h2 g0 f5 h3 g1 f6) sz) (wd_1ad0248d h0 h1 h3 o_h0_2 h1 h2 v1 o_h1_2 o_h1_3 o_h1_4 h2 g0 f5 h3 g1 o_h3)) (va_A (wd_1ad0248d h0 h1 h3 v0 h1 h2 v1 v2 v3 v4 h2 g0 f5 h3 g1 f6) sz)) 0 0 (va_A (wd_1ad0248d h0 h1 h3 v0 h1 h2 v1 v2 v3 v4 h2 g0 f5 h3 g1 f6) sz) := by
  refine Met.ofW (cc := cX3_readSum) (maxL := 4) (ret := (some .boolean)) (by decide) rfl ?_
  intro p e s m args below meth c s₁ B hml hv
  obtain ⟨i_v0a, i_v0b⟩ := i_v0
  obtain ⟨i_v1a, i_v1b⟩ := i_v1
  obtain ⟨rfl, hsz, hP, hK, hD0, h_vr_2, h_st_CS, h_st_S⟩ := hv
  have hx := B.exec
  have hb := B.bytes
  have hr := B.returns
  have hts := atoms_spec (ws := q_X3_readSum_6) B.pre
  have hown : s.vm.findClass RX3 = some m.cls := findClass_of_methodNamed B.named
  have hlocks := B.notSynchronized
  subst hsz
  have hD := hD0.self (sz := s.heap.size)
  generalize hAe : va_A (wd_1ad0248d h0 h1 h3 v0 h1 h2 v1 v2 v3 v4 h2 g0 f5 h3 g1 f6) s.heap.size = A at hD h_st_CS h_st_S ⊢
  have hA : ∀ q : Nat, s.heap.size ≤ q → A q := fun q h => by rw [← hAe]; exact Or.inr h
  have hS : va_S A s.heap s.heap [] := va_S.rf
  generalize hQ : (MQ below _ _ s 0 0 A) = Q
  have hl := lv_entry ([.ref h0, .int 0]) (n := 4) (Nat.le_of_ble_eq_true rfl)
  rw [lg_entry_eq]
  generalize (lg_sl ([.ref h0, .int 0]) ++ List.replicate (4 - (lg_sl ([.ref h0, .int 0])).length) Slot.unset).toArray = ls at hl ⊢
  have hl : lv_has ls 4 [(0, .ref h0), (1, .int 0)] := hl
  obtain ⟨H, hH⟩ : ∃ H : Heap, H = s.heap := ⟨_, rfl⟩
  obtain ⟨locs, hlocs⟩ : ∃ y : List Loc, y = [] := ⟨_, rfl⟩
  have hS : va_S A s.heap H locs := by rw [hH, hlocs]; exact va_S.rf
  have hP : va_P (dC, dI) vwCl (wd_1ad0248d h0 h1 h3 v0 h1 h2 v1 v2 v3 v4 h2 g0 f5 h3 g1 f6) H := by rw [hH]; exact hP
  rw [← hH, ← hlocs]
  refine lv_aload_n hx hb dX3_readSum_0 rfl (lv_at hl 0 rfl) ?_
  refine lv_iload_n hx hb dX3_readSum_1 rfl (lv_at hl 1 rfl) ?_
  have hPc := hP.sub (ws' := (wd_1ad0248d h0 h1 h3 v0 h1 h2 v1 v2 v3 v4 h2 g0 f5 h3 g1 f6)) [0, 1, 2, 3] rfl
  have hDc := hD.sub (ws' := (wd_1ad0248d h0 h1 h3 v0 h1 h2 v1 v2 v3 v4 h2 g0 f5 h3 g1 f6)) [0, 1, 2, 3] (by decide) rfl
  have hKc := hK.sub (tys' := [(g0, .int), (g1, .int)]) [0, 1] rfl
  have hFc := va_free (wc := (wd_1ad0248d h0 h1 h3 v0 h1 h2 v1 v2 v3 v4 h2 g0 f5 h3 g1 f6)) hD hS hA [0, 1, 2, 3] rfl
  refine va_calli (va_runV (As := [.int 0]) (rest := []) ⟨hx, hb, hml, hown, hts⟩ (k_X3_readTerm_6 l dC dI adK adV h0 h1 h2 h3 v0 v1 v2 v3 v4 g0 f5 g1 f6 ⟨by first | omega | decide, by first | omega | decide⟩ ⟨by first | omega | decide, by first | omega | decide⟩ H.size) (cwV 1 hts g_X3_readSum_6_0 rfl rfl rfl (by decide +kernel) ⟨Nat.le_of_ble_eq_true rfl, Nat.le_of_ble_eq_true rfl⟩) ⟨fun a U g mk q => by obtain ⟨q0, q1, qP, qK, qD, n0, n1, n2⟩ := q; exact ⟨q0, q1, qP, va_K.moved (u := U) (U := U.calling g mk a) (Vm.Alike.refl U.vm) qK, qD, vk_R.same rfl n0, va_Z.moved (Vm.Alike.refl _) n1, vk_S.moved (Vm.Alike.refl _) n2⟩, va_recv hKc hPc (ci := 3) (q0 := 0) rfl rfl, fun U hU hW => ⟨rfl, by rw [hU], by rw [hU]; exact hPc, va_K.moved hW.alike hKc, hDc.weaken (fun _ _ _ _ => trivial), vk_R.warm hW h_vr_2, (by rw [hU]; exact (va_Z.moved hW.alike (va_Z.kept h_st_CS hS.2.1)).narrow hFc), (by rw [hU]; exact (vk_S.moved hW.alike (vk_S.kept h_st_S hS.2.1)).narrow hFc)⟩⟩ rfl rfl hl.1 rfl (lv_room (Nat.le_of_ble_eq_true rfl)) dX3_readSum_2 ⟨Nat.le_of_ble_eq_true rfl, Nat.le_of_ble_eq_true rfl⟩) hS (fun q _ h => hFc q h) hFc (fun ra1 u t H1 locs ht hvm hwra1 hB hz1 hk1 hS => ?_)
  obtain ⟨x2, x3, x4, x5, fn6, oa_x2, ob_x2, hP1, hK1, hD1⟩ := hB
  rw [ht] at hP1
  obtain ⟨hP, hD⟩ := va_join (wr := []) (w1 := (wd_1ad0248d h0 h1 h3 x2 h1 h2 v1 x3 x4 x5 h2 g0 f5 h3 g1 fn6)) hP hD [0, 1, 2, 3] [] rfl rfl (by decide) (by decide) hk1 hFc hP1 hD1
  generalize H1 = H at hP hS ⊢
  have hP : va_P (dC, dI) vwCl (wd_1ad0248d h0 h1 h3 x2 h1 h2 v1 x3 x4 x5 h2 g0 f5 h3 g1 fn6) H := hP
  have hD : va_D A (wd_1ad0248d h0 h1 h3 x2 h1 h2 v1 x3 x4 x5 h2 g0 f5 h3 g1 fn6) := hD
  obtain ⟨wa_ra1, wb_ra1⟩ := hwra1
  have wa_ra1 : 0 ≤ ra1.toInt := wa_ra1
  have wb_ra1 : ra1.toInt ≤ 1 := wb_ra1
  refine lv_if_ne (tgt := 10) hx hb dX3_readSum_5 (by decide) (fun c7 => ?_) (fun c7 => ?_)
  · skip
    have fc7 : ¬ (ra1.toInt = 0) := fun h9 => c7 (Int32.toInt_inj.mp h9)
    refine lv_iconst (v := 0) hx hb dX3_readSum_10 (by decide) ?_
    refine lv_istore_n (lv' := [(2, .int 0), (0, .ref h0), (1, .int 0)]) hx hb dX3_readSum_11 rfl hl (by decide) rfl (fun ls hl => ?_)
    have hL104 : ∀ (n9 : Nat), ∀ (x92 : Int32) (x93 : Int32) (x94 : Int32) (x95 : Int32) (x96 : Int32) (fn97 : Nat → Int32) (H : Heap) (locs : List Loc) (ls : Array Slot), 0 ≤ x92.toInt → x92.toInt ≤ 240 → 0 ≤ x93.toInt → x93.toInt ≤ 256 → (240 - x92.toInt).toNat < n9 → va_P (dC, dI) vwCl (wd_1ad0248d h0 h1 h3 x93 h1 h2 v1 x94 x95 x96 h2 g0 f5 h3 g1 fn97) H → va_D A (wd_1ad0248d h0 h1 h3 x93 h1 h2 v1 x94 x95 x96 h2 g0 f5 h3 g1 fn97) → va_S A s.heap H locs → lv_has ls 4 [(2, .int x92), (0, .ref h0), (1, .int 0)] → W p l e ({ frames := 24, cells := 0, slots := 0, locals := 551 }) s m ([.ref h0, .int 0] : List Value).toArray below meth c H locs 0 0 Q (F0 m 12 ls []) := by
      intro n9
      induction n9 with
      | zero => intro x92 x93 x94 x95 x96 fn97 H locs ls qa_x92 qb_x92 qa_x93 qb_x93 hm9 hP hD hS hl; exact absurd hm9 (Nat.not_lt_zero _)
      | succ n9 ih_hL104 =>
        intro x92 x93 x94 x95 x96 fn97 H locs ls qa_x92 qb_x92 qa_x93 qb_x93 hm9 hP hD hS hl
        refine lv_iload_n hx hb dX3_readSum_12 rfl (lv_at hl 0 rfl) ?_
        refine lv_sipush (v := 240) hx hb dX3_readSum_13 (by decide) ?_
        refine lv_icmp_ge (tgt := 80) hx hb dX3_readSum_16 (by decide) (fun c105 => ?_) (fun c105 => ?_)
        · skip
          have fc105 : 240 ≤ x92.toInt := Int32.le_iff_toInt_le.mp c105
          refine lv_iconst (v := 1) hx hb dX3_readSum_80 (by decide) ?_
          subst hQ
          have hP9 := hP.sub (ws' := (wd_1ad0248d h0 h1 h3 x93 h1 h2 v1 x94 x95 x96 h2 g0 f5 h3 g1 fn97)) [0, 1, 2, 3] rfl
          have hD9 := hD.sub (ws' := (wd_1ad0248d h0 h1 h3 x93 h1 h2 v1 x94 x95 x96 h2 g0 f5 h3 g1 fn97)) [0, 1, 2, 3] (by decide) rfl
          have hK9 := hK.sub (tys' := []) [] rfl
          exact W.zret (v := 1) hx hb hr rfl (fun t ht hW => ⟨⟨1, (), rfl, ⟨by first | omega | decide, by first | omega | decide⟩, x93, x94, x95, x96, fn97, by first | omega | decide, by first | omega | decide, by rw [ht]; exact hP9, va_K.moved hW.alike hK9, hD9⟩, hS.F ht⟩) hS.2.2 dX3_readSum_81
        · skip
          have fc105 : ¬ (240 ≤ x92.toInt) := fun h9 => c105 (Int32.le_iff_toInt_le.mpr h9)
          refine lv_aload_n hx hb dX3_readSum_19 rfl (lv_at hl 1 rfl) ?_
          refine va_get (D := (dC, dI)) (ci := 3) (v := .ref h1) (C := RX3) (T := TX3) (N := 3) hx hb hts (fun _ h => List.mem_cons_of_mem _ (List.mem_append_left _ (List.mem_append_right _ h))) hown hK hP 0 rfl rfl 0 (by decide) (hts (.fieldLink RX3 19 "LeftArguments$LawReader" "tape" "LLeftArguments$Tape;") (List.mem_cons_of_mem _ (List.mem_append_left _ (List.mem_append_left _ (List.mem_of_getElem? (i := 2) rfl))))) (fun _ h9 => h9) rfl dX3_readSum_20 ?_
          have hPc := hP.sub (ws' := (wd_82cdd16b h1 h2 v1 x94 x95 x96 h2 g0 f5)) [1, 2] rfl
          have hDc := hD.sub (ws' := (wd_82cdd16b h1 h2 v1 x94 x95 x96 h2 g0 f5)) [1, 2] (by decide) rfl
          have hKc := hK.sub (tys' := [(g0, .int)]) [0] rfl
          have hFc := va_free (wc := (wd_82cdd16b h1 h2 v1 x94 x95 x96 h2 g0 f5)) hD hS hA [1, 2] rfl
          refine va_calli (va_runV (As := []) (rest := []) ⟨hx, hb, hml, hown, hts⟩ (k_X10_next l dC dI h1 h2 v1 x94 x95 x96 g0 f5 ⟨by first | omega | decide, by first | omega | decide⟩ H.size) (cwV 0 hts g_X3_readSum_6_1 rfl rfl rfl (by decide +kernel) ⟨Nat.le_of_ble_eq_true rfl, Nat.le_of_ble_eq_true rfl⟩) ⟨fun a U g mk q => by obtain ⟨q0, q1, qP, qK, qD⟩ := q; exact ⟨q0, q1, qP, va_K.moved (u := U) (U := U.calling g mk a) (Vm.Alike.refl U.vm) qK, qD⟩, va_recv hKc hPc (ci := 10) (q0 := 0) rfl rfl, fun U hU hW => ⟨rfl, by rw [hU], by rw [hU]; exact hPc, va_K.moved hW.alike hKc, hDc.weaken (fun _ _ _ _ => trivial)⟩⟩ rfl rfl hl.1 rfl (lv_room (Nat.le_of_ble_eq_true rfl)) dX3_readSum_23 ⟨Nat.le_of_ble_eq_true rfl, Nat.le_of_ble_eq_true rfl⟩) hS (fun q _ h => hFc q h) hFc (fun ra106 u t H1 locs ht hvm hwra106 hB hz1 hk1 hS => ?_)
          obtain ⟨x107, hP1, hK1, hD1⟩ := hB
          rw [ht] at hP1
          obtain ⟨hP, hD⟩ := va_join (wr := (wd_b958b9da h0 h1 h3 x93 h3 g1 fn97)) (w1 := (wd_82cdd16b h1 h2 v1 x107 x95 x96 h2 g0 f5)) hP hD [1, 2] [0, 3] rfl rfl (by decide) (by decide) hk1 hFc hP1 hD1
          generalize H1 = H at hP hS ⊢
          have hP := hP.sub (ws' := (wd_1ad0248d h0 h1 h3 x93 h1 h2 v1 x107 x95 x96 h2 g0 f5 h3 g1 fn97)) [0, 2, 3, 1] rfl
          have hD := hD.sub (ws' := (wd_1ad0248d h0 h1 h3 x93 h1 h2 v1 x107 x95 x96 h2 g0 f5 h3 g1 fn97)) [0, 2, 3, 1] (by decide) rfl
          have hP : va_P (dC, dI) vwCl (wd_1ad0248d h0 h1 h3 x93 h1 h2 v1 x107 x95 x96 h2 g0 f5 h3 g1 fn97) H := hP
          have hD : va_D A (wd_1ad0248d h0 h1 h3 x93 h1 h2 v1 x107 x95 x96 h2 g0 f5 h3 g1 fn97) := hD
          refine lv_istore_n (lv' := [(3, .int ra106), (2, .int x92), (0, .ref h0), (1, .int 0)]) hx hb dX3_readSum_26 rfl hl (by decide) rfl (fun ls hl => ?_)
          refine lv_iload_n hx hb dX3_readSum_27 rfl (lv_at hl 0 rfl) ?_
          refine lv_bipush (v := 43) hx hb dX3_readSum_28 (by decide) ?_
          refine lv_icmp_eq (tgt := 41) hx hb dX3_readSum_30 (by decide) (fun c108 => ?_) (fun c108 => ?_)
          · skip
            have fc108 : ra106.toInt = 43 := congrArg Int32.toInt c108
            refine lv_aload_n hx hb dX3_readSum_41 rfl (lv_at hl 2 rfl) ?_
            refine va_get (D := (dC, dI)) (ci := 3) (v := .ref h1) (C := RX3) (T := TX3) (N := 3) hx hb hts (fun _ h => List.mem_cons_of_mem _ (List.mem_append_left _ (List.mem_append_right _ h))) hown hK hP 0 rfl rfl 0 (by decide) (hts (.fieldLink RX3 19 "LeftArguments$LawReader" "tape" "LLeftArguments$Tape;") (List.mem_cons_of_mem _ (List.mem_append_left _ (List.mem_append_left _ (List.mem_of_getElem? (i := 2) rfl))))) (fun _ h9 => h9) rfl dX3_readSum_42 ?_
            have hPc := hP.sub (ws' := (wd_09b0abee h1 h2 v1 x107 x95 x96)) [1] rfl
            have hDc := hD.sub (ws' := (wd_09b0abee h1 h2 v1 x107 x95 x96)) [1] (by decide) rfl
            have hKc := hK.sub (tys' := []) [] rfl
            have hFc := va_free (wc := (wd_09b0abee h1 h2 v1 x107 x95 x96)) hD hS hA [1] rfl
            refine va_callv (va_runV (As := []) (rest := []) ⟨hx, hb, hml, hown, hts⟩ (k_X10_step l dC dI h1 h2 v1 x107 x95 x96 ⟨by first | omega | decide, by first | omega | decide⟩ H.size) (cwV 0 hts g_X3_readSum_6_2 rfl rfl rfl (by decide +kernel) ⟨Nat.le_of_ble_eq_true rfl, Nat.le_of_ble_eq_true rfl⟩) ⟨fun a U g mk q => by obtain ⟨q0, q1, qP, qK, qD⟩ := q; exact ⟨q0, q1, qP, va_K.moved (u := U) (U := U.calling g mk a) (Vm.Alike.refl U.vm) qK, qD⟩, va_recv hKc hPc (ci := 10) (q0 := 0) rfl rfl, fun U hU hW => ⟨rfl, by rw [hU], by rw [hU]; exact hPc, va_K.moved hW.alike hKc, hDc.weaken (fun _ _ _ _ => trivial)⟩⟩ rfl rfl hl.1 rfl (lv_room (Nat.le_of_ble_eq_true rfl)) dX3_readSum_45 ⟨Nat.le_of_ble_eq_true rfl, Nat.le_of_ble_eq_true rfl⟩) hS (fun q _ h => hFc q h) hFc (fun u t H1 locs ht hvm hwra109 hB hz1 hk1 hS => ?_)
            obtain ⟨x110, hP1, hK1, hD1⟩ := hB
            rw [ht] at hP1
            obtain ⟨hP, hD⟩ := va_join (wr := (wd_6b0d8e05 h0 h1 h3 x93 h2 g0 f5 h3 g1 fn97)) (w1 := (wd_09b0abee h1 h2 v1 x110 x95 x96)) hP hD [1] [0, 2, 3] rfl rfl (by decide) (by decide) hk1 hFc hP1 hD1
            generalize H1 = H at hP hS ⊢
            have hP := hP.sub (ws' := (wd_1ad0248d h0 h1 h3 x93 h1 h2 v1 x110 x95 x96 h2 g0 f5 h3 g1 fn97)) [0, 3, 1, 2] rfl
            have hD := hD.sub (ws' := (wd_1ad0248d h0 h1 h3 x93 h1 h2 v1 x110 x95 x96 h2 g0 f5 h3 g1 fn97)) [0, 3, 1, 2] (by decide) rfl
            have hP : va_P (dC, dI) vwCl (wd_1ad0248d h0 h1 h3 x93 h1 h2 v1 x110 x95 x96 h2 g0 f5 h3 g1 fn97) H := hP
            have hD : va_D A (wd_1ad0248d h0 h1 h3 x93 h1 h2 v1 x110 x95 x96 h2 g0 f5 h3 g1 fn97) := hD
            refine lv_aload_n hx hb dX3_readSum_48 rfl (lv_at hl 2 rfl) ?_
            refine lv_iload_n hx hb dX3_readSum_49 rfl (lv_at hl 3 rfl) ?_
            have hPc := hP.sub (ws' := (wd_1ad0248d h0 h1 h3 x93 h1 h2 v1 x110 x95 x96 h2 g0 f5 h3 g1 fn97)) [0, 1, 2, 3] rfl
            have hDc := hD.sub (ws' := (wd_1ad0248d h0 h1 h3 x93 h1 h2 v1 x110 x95 x96 h2 g0 f5 h3 g1 fn97)) [0, 1, 2, 3] (by decide) rfl
            have hKc := hK.sub (tys' := [(g0, .int), (g1, .int)]) [0, 1] rfl
            have hFc := va_free (wc := (wd_1ad0248d h0 h1 h3 x93 h1 h2 v1 x110 x95 x96 h2 g0 f5 h3 g1 fn97)) hD hS hA [0, 1, 2, 3] rfl
            refine va_calli (va_runV (As := [.int 0]) (rest := []) ⟨hx, hb, hml, hown, hts⟩ (k_X3_readTerm_6 l dC dI adK adV h0 h1 h2 h3 x93 v1 x110 x95 x96 g0 f5 g1 fn97 ⟨by first | omega | decide, by first | omega | decide⟩ ⟨by first | omega | decide, by first | omega | decide⟩ H.size) (cwV 1 hts g_X3_readSum_6_0 rfl rfl rfl (by decide +kernel) ⟨Nat.le_of_ble_eq_true rfl, Nat.le_of_ble_eq_true rfl⟩) ⟨fun a U g mk q => by obtain ⟨q0, q1, qP, qK, qD, n0, n1, n2⟩ := q; exact ⟨q0, q1, qP, va_K.moved (u := U) (U := U.calling g mk a) (Vm.Alike.refl U.vm) qK, qD, vk_R.same rfl n0, va_Z.moved (Vm.Alike.refl _) n1, vk_S.moved (Vm.Alike.refl _) n2⟩, va_recv hKc hPc (ci := 3) (q0 := 0) rfl rfl, fun U hU hW => ⟨rfl, by rw [hU], by rw [hU]; exact hPc, va_K.moved hW.alike hKc, hDc.weaken (fun _ _ _ _ => trivial), vk_R.warm hW h_vr_2, (by rw [hU]; exact (va_Z.moved hW.alike (va_Z.kept h_st_CS hS.2.1)).narrow hFc), (by rw [hU]; exact (vk_S.moved hW.alike (vk_S.kept h_st_S hS.2.1)).narrow hFc)⟩⟩ rfl rfl hl.1 rfl (lv_room (Nat.le_of_ble_eq_true rfl)) dX3_readSum_50 ⟨Nat.le_of_ble_eq_true rfl, Nat.le_of_ble_eq_true rfl⟩) hS (fun q _ h => hFc q h) hFc (fun ra111 u t H1 locs ht hvm hwra111 hB hz1 hk1 hS => ?_)
            obtain ⟨x112, x113, x114, x115, fn116, oa_x112, ob_x112, hP1, hK1, hD1⟩ := hB
            rw [ht] at hP1
            obtain ⟨hP, hD⟩ := va_join (wr := []) (w1 := (wd_1ad0248d h0 h1 h3 x112 h1 h2 v1 x113 x114 x115 h2 g0 f5 h3 g1 fn116)) hP hD [0, 1, 2, 3] [] rfl rfl (by decide) (by decide) hk1 hFc hP1 hD1
            generalize H1 = H at hP hS ⊢
            have hP : va_P (dC, dI) vwCl (wd_1ad0248d h0 h1 h3 x112 h1 h2 v1 x113 x114 x115 h2 g0 f5 h3 g1 fn116) H := hP
            have hD : va_D A (wd_1ad0248d h0 h1 h3 x112 h1 h2 v1 x113 x114 x115 h2 g0 f5 h3 g1 fn116) := hD
            obtain ⟨wa_ra111, wb_ra111⟩ := hwra111
            have wa_ra111 : 0 ≤ ra111.toInt := wa_ra111
            have wb_ra111 : ra111.toInt ≤ 1 := wb_ra111
            refine lv_if_ne (tgt := 58) hx hb dX3_readSum_53 (by decide) (fun c117 => ?_) (fun c117 => ?_)
            · skip
              have fc117 : ¬ (ra111.toInt = 0) := fun h9 => c117 (Int32.toInt_inj.mp h9)
              refine lv_aload_n hx hb dX3_readSum_58 rfl (lv_at hl 2 rfl) ?_
              refine lv_iload_n hx hb dX3_readSum_59 rfl (lv_at hl 0 rfl) ?_
              refine lv_bipush (v := 43) hx hb dX3_readSum_60 (by decide) ?_
              refine lv_icmp_ne (tgt := 69) hx hb dX3_readSum_62 (by decide) (fun c118 => by exfalso; have fc118 : ¬ (ra106.toInt = 43) := fun h9 => c118 (Int32.toInt_inj.mp h9); omega) (fun _ => ?_)
              refine lv_iconst (v := 2) hx hb dX3_readSum_65 (by decide) ?_
              refine lv_goto (tgt := 70) hx hb dX3_readSum_66 (by decide) ?_
              refine lv_iconst (v := 0) hx hb dX3_readSum_70 (by decide) ?_
              have hPc := hP.sub (ws' := (wd_b958b9da h0 h1 h3 x112 h3 g1 fn116)) [0, 3] rfl
              have hDc := hD.sub (ws' := (wd_b958b9da h0 h1 h3 x112 h3 g1 fn116)) [0, 3] (by decide) rfl
              have hKc := hK.sub (tys' := [(g1, .int)]) [1] rfl
              have hFc := va_free (wc := (wd_b958b9da h0 h1 h3 x112 h3 g1 fn116)) hD hS hA [0, 3] rfl
              refine va_callv (va_runV (As := [.int 2, .int 0]) (rest := []) ⟨hx, hb, hml, hown, hts⟩ (k_X3_write l dC dI h0 h3 h1 x112 g1 fn116 2 0 ⟨by first | omega | decide, by first | omega | decide⟩ H.size) (cwV 2 hts g_X3_readSum_6_4 rfl rfl rfl (by decide +kernel) ⟨Nat.le_of_ble_eq_true rfl, Nat.le_of_ble_eq_true rfl⟩) ⟨fun a U g mk q => by obtain ⟨q0, q1, qP, qK, qD⟩ := q; exact ⟨q0, q1, qP, va_K.moved (u := U) (U := U.calling g mk a) (Vm.Alike.refl U.vm) qK, qD⟩, va_recv hKc hPc (ci := 3) (q0 := 0) rfl rfl, fun U hU hW => ⟨rfl, by rw [hU], by rw [hU]; exact hPc, va_K.moved hW.alike hKc, hDc.weaken (fun _ _ _ _ => trivial)⟩⟩ rfl rfl hl.1 rfl (lv_room (Nat.le_of_ble_eq_true rfl)) dX3_readSum_71 ⟨Nat.le_of_ble_eq_true rfl, Nat.le_of_ble_eq_true rfl⟩) hS (fun q _ h => hFc q h) hFc (fun u t H1 locs ht hvm hwra119 hB hz1 hk1 hS => ?_)
              obtain ⟨x120, fn121, oa_x120, ob_x120, hP1, hK1, hD1⟩ := hB
              rw [ht] at hP1
              obtain ⟨hP, hD⟩ := va_join (wr := (wd_82cdd16b h1 h2 v1 x113 x114 x115 h2 g0 f5)) (w1 := (wd_b958b9da h0 h1 h3 x120 h3 g1 fn121)) hP hD [0, 3] [1, 2] rfl rfl (by decide) (by decide) hk1 hFc hP1 hD1
              generalize H1 = H at hP hS ⊢
              have hP := hP.sub (ws' := (wd_1ad0248d h0 h1 h3 x120 h1 h2 v1 x113 x114 x115 h2 g0 f5 h3 g1 fn121)) [2, 0, 1, 3] rfl
              have hD := hD.sub (ws' := (wd_1ad0248d h0 h1 h3 x120 h1 h2 v1 x113 x114 x115 h2 g0 f5 h3 g1 fn121)) [2, 0, 1, 3] (by decide) rfl
              have hP : va_P (dC, dI) vwCl (wd_1ad0248d h0 h1 h3 x120 h1 h2 v1 x113 x114 x115 h2 g0 f5 h3 g1 fn121) H := hP
              have hD : va_D A (wd_1ad0248d h0 h1 h3 x120 h1 h2 v1 x113 x114 x115 h2 g0 f5 h3 g1 fn121) := hD
              obtain ⟨t122, et122⟩ : ∃ y : Int32, y = x92 + 1 := ⟨_, rfl⟩
              have gt122 : t122.toInt = x92.toInt + (1) := pv_add (a := x92.toInt) (b := (1)) et122 rfl (by decide) (by omega) (by omega)
              refine lv_iinc (v := t122) (lv' := [(2, .int t122), (3, .int ra106), (0, .ref h0), (1, .int 0)]) hx hb dX3_readSum_74 hl (k := 1) rfl (by rw [et122]; rfl) (by decide) rfl (fun ls hl => ?_)
              refine lv_goto (tgt := 12) hx hb dX3_readSum_77 (by decide) ?_
              exact ih_hL104 t122 x120 x113 x114 x115 fn121 H locs ls (by first | omega | decide) (by first | omega | decide) (by first | omega | decide) (by first | omega | decide) (by first | omega | (simp only [Int.toNat] at *; omega)) hP hD hS (lv_sub hl [0, 2, 3] rfl)
            · skip
              have fc117 : ra111.toInt = 0 := congrArg Int32.toInt c117
              refine lv_iconst (v := 0) hx hb dX3_readSum_56 (by decide) ?_
              subst hQ
              have hP9 := hP.sub (ws' := (wd_1ad0248d h0 h1 h3 x112 h1 h2 v1 x113 x114 x115 h2 g0 f5 h3 g1 fn116)) [0, 1, 2, 3] rfl
              have hD9 := hD.sub (ws' := (wd_1ad0248d h0 h1 h3 x112 h1 h2 v1 x113 x114 x115 h2 g0 f5 h3 g1 fn116)) [0, 1, 2, 3] (by decide) rfl
              have hK9 := hK.sub (tys' := []) [] rfl
              exact W.zret (v := 0) hx hb hr rfl (fun t ht hW => ⟨⟨0, (), rfl, ⟨by first | omega | decide, by first | omega | decide⟩, x112, x113, x114, x115, fn116, by first | omega | decide, by first | omega | decide, by rw [ht]; exact hP9, va_K.moved hW.alike hK9, hD9⟩, hS.F ht⟩) hS.2.2 dX3_readSum_57
          · skip
            have fc108 : ¬ (ra106.toInt = 43) := fun h9 => c108 (Int32.toInt_inj.mp h9)
            refine lv_iload_n hx hb dX3_readSum_33 rfl (lv_at hl 0 rfl) ?_
            refine lv_bipush (v := 45) hx hb dX3_readSum_34 (by decide) ?_
            refine lv_icmp_eq (tgt := 41) hx hb dX3_readSum_36 (by decide) (fun c123 => ?_) (fun c123 => ?_)
            · skip
              have fc123 : ra106.toInt = 45 := congrArg Int32.toInt c123
              refine lv_aload_n hx hb dX3_readSum_41 rfl (lv_at hl 2 rfl) ?_
              refine va_get (D := (dC, dI)) (ci := 3) (v := .ref h1) (C := RX3) (T := TX3) (N := 3) hx hb hts (fun _ h => List.mem_cons_of_mem _ (List.mem_append_left _ (List.mem_append_right _ h))) hown hK hP 0 rfl rfl 0 (by decide) (hts (.fieldLink RX3 19 "LeftArguments$LawReader" "tape" "LLeftArguments$Tape;") (List.mem_cons_of_mem _ (List.mem_append_left _ (List.mem_append_left _ (List.mem_of_getElem? (i := 2) rfl))))) (fun _ h9 => h9) rfl dX3_readSum_42 ?_
              have hPc := hP.sub (ws' := (wd_09b0abee h1 h2 v1 x107 x95 x96)) [1] rfl
              have hDc := hD.sub (ws' := (wd_09b0abee h1 h2 v1 x107 x95 x96)) [1] (by decide) rfl
              have hKc := hK.sub (tys' := []) [] rfl
              have hFc := va_free (wc := (wd_09b0abee h1 h2 v1 x107 x95 x96)) hD hS hA [1] rfl
              refine va_callv (va_runV (As := []) (rest := []) ⟨hx, hb, hml, hown, hts⟩ (k_X10_step l dC dI h1 h2 v1 x107 x95 x96 ⟨by first | omega | decide, by first | omega | decide⟩ H.size) (cwV 0 hts g_X3_readSum_6_2 rfl rfl rfl (by decide +kernel) ⟨Nat.le_of_ble_eq_true rfl, Nat.le_of_ble_eq_true rfl⟩) ⟨fun a U g mk q => by obtain ⟨q0, q1, qP, qK, qD⟩ := q; exact ⟨q0, q1, qP, va_K.moved (u := U) (U := U.calling g mk a) (Vm.Alike.refl U.vm) qK, qD⟩, va_recv hKc hPc (ci := 10) (q0 := 0) rfl rfl, fun U hU hW => ⟨rfl, by rw [hU], by rw [hU]; exact hPc, va_K.moved hW.alike hKc, hDc.weaken (fun _ _ _ _ => trivial)⟩⟩ rfl rfl hl.1 rfl (lv_room (Nat.le_of_ble_eq_true rfl)) dX3_readSum_45 ⟨Nat.le_of_ble_eq_true rfl, Nat.le_of_ble_eq_true rfl⟩) hS (fun q _ h => hFc q h) hFc (fun u t H1 locs ht hvm hwra124 hB hz1 hk1 hS => ?_)
              obtain ⟨x125, hP1, hK1, hD1⟩ := hB
              rw [ht] at hP1
              obtain ⟨hP, hD⟩ := va_join (wr := (wd_6b0d8e05 h0 h1 h3 x93 h2 g0 f5 h3 g1 fn97)) (w1 := (wd_09b0abee h1 h2 v1 x125 x95 x96)) hP hD [1] [0, 2, 3] rfl rfl (by decide) (by decide) hk1 hFc hP1 hD1
              generalize H1 = H at hP hS ⊢
              have hP := hP.sub (ws' := (wd_1ad0248d h0 h1 h3 x93 h1 h2 v1 x125 x95 x96 h2 g0 f5 h3 g1 fn97)) [0, 3, 1, 2] rfl
              have hD := hD.sub (ws' := (wd_1ad0248d h0 h1 h3 x93 h1 h2 v1 x125 x95 x96 h2 g0 f5 h3 g1 fn97)) [0, 3, 1, 2] (by decide) rfl
              have hP : va_P (dC, dI) vwCl (wd_1ad0248d h0 h1 h3 x93 h1 h2 v1 x125 x95 x96 h2 g0 f5 h3 g1 fn97) H := hP
              have hD : va_D A (wd_1ad0248d h0 h1 h3 x93 h1 h2 v1 x125 x95 x96 h2 g0 f5 h3 g1 fn97) := hD
              refine lv_aload_n hx hb dX3_readSum_48 rfl (lv_at hl 2 rfl) ?_
              refine lv_iload_n hx hb dX3_readSum_49 rfl (lv_at hl 3 rfl) ?_
              have hPc := hP.sub (ws' := (wd_1ad0248d h0 h1 h3 x93 h1 h2 v1 x125 x95 x96 h2 g0 f5 h3 g1 fn97)) [0, 1, 2, 3] rfl
              have hDc := hD.sub (ws' := (wd_1ad0248d h0 h1 h3 x93 h1 h2 v1 x125 x95 x96 h2 g0 f5 h3 g1 fn97)) [0, 1, 2, 3] (by decide) rfl
              have hKc := hK.sub (tys' := [(g0, .int), (g1, .int)]) [0, 1] rfl
              have hFc := va_free (wc := (wd_1ad0248d h0 h1 h3 x93 h1 h2 v1 x125 x95 x96 h2 g0 f5 h3 g1 fn97)) hD hS hA [0, 1, 2, 3] rfl
              refine va_calli (va_runV (As := [.int 0]) (rest := []) ⟨hx, hb, hml, hown, hts⟩ (k_X3_readTerm_6 l dC dI adK adV h0 h1 h2 h3 x93 v1 x125 x95 x96 g0 f5 g1 fn97 ⟨by first | omega | decide, by first | omega | decide⟩ ⟨by first | omega | decide, by first | omega | decide⟩ H.size) (cwV 1 hts g_X3_readSum_6_0 rfl rfl rfl (by decide +kernel) ⟨Nat.le_of_ble_eq_true rfl, Nat.le_of_ble_eq_true rfl⟩) ⟨fun a U g mk q => by obtain ⟨q0, q1, qP, qK, qD, n0, n1, n2⟩ := q; exact ⟨q0, q1, qP, va_K.moved (u := U) (U := U.calling g mk a) (Vm.Alike.refl U.vm) qK, qD, vk_R.same rfl n0, va_Z.moved (Vm.Alike.refl _) n1, vk_S.moved (Vm.Alike.refl _) n2⟩, va_recv hKc hPc (ci := 3) (q0 := 0) rfl rfl, fun U hU hW => ⟨rfl, by rw [hU], by rw [hU]; exact hPc, va_K.moved hW.alike hKc, hDc.weaken (fun _ _ _ _ => trivial), vk_R.warm hW h_vr_2, (by rw [hU]; exact (va_Z.moved hW.alike (va_Z.kept h_st_CS hS.2.1)).narrow hFc), (by rw [hU]; exact (vk_S.moved hW.alike (vk_S.kept h_st_S hS.2.1)).narrow hFc)⟩⟩ rfl rfl hl.1 rfl (lv_room (Nat.le_of_ble_eq_true rfl)) dX3_readSum_50 ⟨Nat.le_of_ble_eq_true rfl, Nat.le_of_ble_eq_true rfl⟩) hS (fun q _ h => hFc q h) hFc (fun ra126 u t H1 locs ht hvm hwra126 hB hz1 hk1 hS => ?_)
              obtain ⟨x127, x128, x129, x130, fn131, oa_x127, ob_x127, hP1, hK1, hD1⟩ := hB
              rw [ht] at hP1
              obtain ⟨hP, hD⟩ := va_join (wr := []) (w1 := (wd_1ad0248d h0 h1 h3 x127 h1 h2 v1 x128 x129 x130 h2 g0 f5 h3 g1 fn131)) hP hD [0, 1, 2, 3] [] rfl rfl (by decide) (by decide) hk1 hFc hP1 hD1
              generalize H1 = H at hP hS ⊢
              have hP : va_P (dC, dI) vwCl (wd_1ad0248d h0 h1 h3 x127 h1 h2 v1 x128 x129 x130 h2 g0 f5 h3 g1 fn131) H := hP
              have hD : va_D A (wd_1ad0248d h0 h1 h3 x127 h1 h2 v1 x128 x129 x130 h2 g0 f5 h3 g1 fn131) := hD
              obtain ⟨wa_ra126, wb_ra126⟩ := hwra126
              have wa_ra126 : 0 ≤ ra126.toInt := wa_ra126
              have wb_ra126 : ra126.toInt ≤ 1 := wb_ra126
              refine lv_if_ne (tgt := 58) hx hb dX3_readSum_53 (by decide) (fun c132 => ?_) (fun c132 => ?_)
              · skip
                have fc132 : ¬ (ra126.toInt = 0) := fun h9 => c132 (Int32.toInt_inj.mp h9)
                refine lv_aload_n hx hb dX3_readSum_58 rfl (lv_at hl 2 rfl) ?_
                refine lv_iload_n hx hb dX3_readSum_59 rfl (lv_at hl 0 rfl) ?_
                refine lv_bipush (v := 43) hx hb dX3_readSum_60 (by decide) ?_
                refine lv_icmp_ne (tgt := 69) hx hb dX3_readSum_62 (by decide) (fun _ => ?_) (fun c133 => by exfalso; have fc133 : ra106.toInt = 43 := congrArg Int32.toInt c133; omega)
                refine lv_iconst (v := 3) hx hb dX3_readSum_69 (by decide) ?_
                refine lv_iconst (v := 0) hx hb dX3_readSum_70 (by decide) ?_
                have hPc := hP.sub (ws' := (wd_b958b9da h0 h1 h3 x127 h3 g1 fn131)) [0, 3] rfl
                have hDc := hD.sub (ws' := (wd_b958b9da h0 h1 h3 x127 h3 g1 fn131)) [0, 3] (by decide) rfl
                have hKc := hK.sub (tys' := [(g1, .int)]) [1] rfl
                have hFc := va_free (wc := (wd_b958b9da h0 h1 h3 x127 h3 g1 fn131)) hD hS hA [0, 3] rfl
                refine va_callv (va_runV (As := [.int 3, .int 0]) (rest := []) ⟨hx, hb, hml, hown, hts⟩ (k_X3_write l dC dI h0 h3 h1 x127 g1 fn131 3 0 ⟨by first | omega | decide, by first | omega | decide⟩ H.size) (cwV 2 hts g_X3_readSum_6_4 rfl rfl rfl (by decide +kernel) ⟨Nat.le_of_ble_eq_true rfl, Nat.le_of_ble_eq_true rfl⟩) ⟨fun a U g mk q => by obtain ⟨q0, q1, qP, qK, qD⟩ := q; exact ⟨q0, q1, qP, va_K.moved (u := U) (U := U.calling g mk a) (Vm.Alike.refl U.vm) qK, qD⟩, va_recv hKc hPc (ci := 3) (q0 := 0) rfl rfl, fun U hU hW => ⟨rfl, by rw [hU], by rw [hU]; exact hPc, va_K.moved hW.alike hKc, hDc.weaken (fun _ _ _ _ => trivial)⟩⟩ rfl rfl hl.1 rfl (lv_room (Nat.le_of_ble_eq_true rfl)) dX3_readSum_71 ⟨Nat.le_of_ble_eq_true rfl, Nat.le_of_ble_eq_true rfl⟩) hS (fun q _ h => hFc q h) hFc (fun u t H1 locs ht hvm hwra134 hB hz1 hk1 hS => ?_)
                obtain ⟨x135, fn136, oa_x135, ob_x135, hP1, hK1, hD1⟩ := hB
                rw [ht] at hP1
                obtain ⟨hP, hD⟩ := va_join (wr := (wd_82cdd16b h1 h2 v1 x128 x129 x130 h2 g0 f5)) (w1 := (wd_b958b9da h0 h1 h3 x135 h3 g1 fn136)) hP hD [0, 3] [1, 2] rfl rfl (by decide) (by decide) hk1 hFc hP1 hD1
                generalize H1 = H at hP hS ⊢
                have hP := hP.sub (ws' := (wd_1ad0248d h0 h1 h3 x135 h1 h2 v1 x128 x129 x130 h2 g0 f5 h3 g1 fn136)) [2, 0, 1, 3] rfl
                have hD := hD.sub (ws' := (wd_1ad0248d h0 h1 h3 x135 h1 h2 v1 x128 x129 x130 h2 g0 f5 h3 g1 fn136)) [2, 0, 1, 3] (by decide) rfl
                have hP : va_P (dC, dI) vwCl (wd_1ad0248d h0 h1 h3 x135 h1 h2 v1 x128 x129 x130 h2 g0 f5 h3 g1 fn136) H := hP
                have hD : va_D A (wd_1ad0248d h0 h1 h3 x135 h1 h2 v1 x128 x129 x130 h2 g0 f5 h3 g1 fn136) := hD
                obtain ⟨t137, et137⟩ : ∃ y : Int32, y = x92 + 1 := ⟨_, rfl⟩
                have gt137 : t137.toInt = x92.toInt + (1) := pv_add (a := x92.toInt) (b := (1)) et137 rfl (by decide) (by omega) (by omega)
                refine lv_iinc (v := t137) (lv' := [(2, .int t137), (3, .int ra106), (0, .ref h0), (1, .int 0)]) hx hb dX3_readSum_74 hl (k := 1) rfl (by rw [et137]; rfl) (by decide) rfl (fun ls hl => ?_)
                refine lv_goto (tgt := 12) hx hb dX3_readSum_77 (by decide) ?_
                exact ih_hL104 t137 x135 x128 x129 x130 fn136 H locs ls (by first | omega | decide) (by first | omega | decide) (by first | omega | decide) (by first | omega | decide) (by first | omega | (simp only [Int.toNat] at *; omega)) hP hD hS (lv_sub hl [0, 2, 3] rfl)
              · skip
                have fc132 : ra126.toInt = 0 := congrArg Int32.toInt c132
                refine lv_iconst (v := 0) hx hb dX3_readSum_56 (by decide) ?_
                subst hQ
                have hP9 := hP.sub (ws' := (wd_1ad0248d h0 h1 h3 x127 h1 h2 v1 x128 x129 x130 h2 g0 f5 h3 g1 fn131)) [0, 1, 2, 3] rfl
                have hD9 := hD.sub (ws' := (wd_1ad0248d h0 h1 h3 x127 h1 h2 v1 x128 x129 x130 h2 g0 f5 h3 g1 fn131)) [0, 1, 2, 3] (by decide) rfl
                have hK9 := hK.sub (tys' := []) [] rfl
                exact W.zret (v := 0) hx hb hr rfl (fun t ht hW => ⟨⟨0, (), rfl, ⟨by first | omega | decide, by first | omega | decide⟩, x127, x128, x129, x130, fn131, by first | omega | decide, by first | omega | decide, by rw [ht]; exact hP9, va_K.moved hW.alike hK9, hD9⟩, hS.F ht⟩) hS.2.2 dX3_readSum_57
            · skip
              have fc123 : ¬ (ra106.toInt = 45) := fun h9 => c123 (Int32.toInt_inj.mp h9)
              refine lv_iconst (v := 1) hx hb dX3_readSum_39 (by decide) ?_
              subst hQ
              have hP9 := hP.sub (ws' := (wd_1ad0248d h0 h1 h3 x93 h1 h2 v1 x107 x95 x96 h2 g0 f5 h3 g1 fn97)) [0, 1, 2, 3] rfl
              have hD9 := hD.sub (ws' := (wd_1ad0248d h0 h1 h3 x93 h1 h2 v1 x107 x95 x96 h2 g0 f5 h3 g1 fn97)) [0, 1, 2, 3] (by decide) rfl
              have hK9 := hK.sub (tys' := []) [] rfl
              exact W.zret (v := 1) hx hb hr rfl (fun t ht hW => ⟨⟨1, (), rfl, ⟨by first | omega | decide, by first | omega | decide⟩, x93, x107, x95, x96, fn97, by first | omega | decide, by first | omega | decide, by rw [ht]; exact hP9, va_K.moved hW.alike hK9, hD9⟩, hS.F ht⟩) hS.2.2 dX3_readSum_40
    exact hL104 _ 0 x2 x3 x4 x5 fn6 H locs ls (by first | omega | decide) (by first | omega | decide) (by first | omega | decide) (by first | omega | decide) (Nat.lt_succ_self _) hP hD hS (lv_sub hl [0, 1, 2] rfl)
  · skip
    have fc7 : ra1.toInt = 0 := congrArg Int32.toInt c7
    refine lv_iconst (v := 0) hx hb dX3_readSum_8 (by decide) ?_
    subst hQ
    have hP9 := hP.sub (ws' := (wd_1ad0248d h0 h1 h3 x2 h1 h2 v1 x3 x4 x5 h2 g0 f5 h3 g1 fn6)) [0, 1, 2, 3] rfl
    have hD9 := hD.sub (ws' := (wd_1ad0248d h0 h1 h3 x2 h1 h2 v1 x3 x4 x5 h2 g0 f5 h3 g1 fn6)) [0, 1, 2, 3] (by decide) rfl
    have hK9 := hK.sub (tys' := []) [] rfl
    exact W.zret (v := 0) hx hb hr rfl (fun t ht hW => ⟨⟨0, (), rfl, ⟨by first | omega | decide, by first | omega | decide⟩, x2, x3, x4, x5, fn6, by first | omega | decide, by first | omega | decide, by rw [ht]; exact hP9, va_K.moved hW.alike hK9, hD9⟩, hS.F ht⟩) hS.2.2 dX3_readSum_9
def q_X3_readUnit : List Cond := .code yX3_readUnit cX3_readUnit 5 (some .boolean) :: (([.fieldLink RX3 19 "LeftArguments$LawReader" "tape" "LLeftArguments$Tape;", .code yX10_next cX10_next 1 (some .int), .fieldLink RX10 19 "LeftArguments$Tape" "at" "I", .fieldLink RX10 15 "LeftArguments$Tape" "used" "I", .fieldLink RX10 9 "LeftArguments$Tape" "bytes" "[I", .initialized RX10, .instanceMethod yX10_next, .selects RX10 yX10_next yX10_next, .methodLink RX3 48 yX10_next, .code yX3_comparing cX3_comparing 1 (some .int), .initialized RX3, .static yX3_comparing, .methodLink RX3 62 yX3_comparing, .code yX10_step cX10_step 1 none, .instanceMethod yX10_step, .selects RX10 yX10_step yX10_step, .methodLink RX3 77 yX10_step, .code yX3_readSum cX3_readSum 4 (some .boolean), .code yX3_readTerm cX3_readTerm 4 (some .boolean), .code yX3_readAtom cX3_readAtom 4 (some .boolean), .code yX10_isDigit cX10_isDigit 1 (some .boolean), .static yX10_isDigit, .methodLink RX3 92 yX10_isDigit, .code yX3_write cX3_write 3 none, .fieldLink RX3 15 "LeftArguments$LawReader" "used" "I", .fieldLink RX3 11 "LeftArguments$LawReader" "code" "[I", .instanceMethod yX3_write, .selects RX3 yX3_write yX3_write, .methodLink RX3 66 yX3_write, .code yX10_wrongHere cX10_wrongHere 1 (some .boolean), .fieldLink RX10 22 "LeftArguments$Tape" "wrongAt" "I", .instanceMethod yX10_wrongHere, .selects RX10 yX10_wrongHere yX10_wrongHere, .methodLink RX3 83 yX10_wrongHere, .code yJ0_indexOf_0f7a4 cJ0_indexOf_0f7a4 2 (some .int), .code yJ0_indexOf_7cf53 cJ0_indexOf_7cf53 3 (some .int), .code yJ0_isLatin1_aae02 cJ0_isLatin1_aae02 1 (some .boolean), .fieldLink RJ0 38 "java/lang/String" "COMPACT_STRINGS" "Z", .fieldLink RJ0 15 "java/lang/String" "coder" "B", .initialized RJ0, .instanceMethod yJ0_isLatin1_aae02, .selects RJ0 yJ0_isLatin1_aae02 yJ0_isLatin1_aae02, .methodLink RJ0 492 yJ0_isLatin1_aae02, .fieldLink RJ0 9 "java/lang/String" "value" "[B", .code yJ0_length_8abf5 cJ0_length_8abf5 1 (some .int), .code yJ0_coder_7d493 cJ0_coder_7d493 1 (some .byte), .instanceMethod yJ0_coder_7d493, .selects RJ0 yJ0_coder_7d493 yJ0_coder_7d493, .methodLink RJ0 335 yJ0_coder_7d493, .instanceMethod yJ0_length_8abf5, .selects RJ0 yJ0_length_8abf5 yJ0_length_8abf5, .methodLink RJ0 505 yJ0_length_8abf5, .code yJ1_indexOf_4cfef cJ1_indexOf_4cfef 4 (some .int), .code yJ1_canEncode_9a6ad cJ1_canEncode_9a6ad 1 (some .boolean), .initialized RJ1, .static yJ1_canEncode_9a6ad, .methodLink RJ1 88 yJ1_canEncode_9a6ad, .methodLink RJ1 92 Lib.Math.max.name, .static Lib.Math.max.name, .initialized "java/lang/Math", .code Lib.Math.max.name Lib.Math.max.code 2 (some .int), .methodLink RJ1 38 Lib.Math.min.name, .static Lib.Math.min.name, .code Lib.Math.min.name Lib.Math.min.code 2 (some .int), .code yJ1_indexOfChar_4cfef cJ1_indexOfChar_4cfef 6 (some .int), .static yJ1_indexOfChar_4cfef, .methodLink RJ1 95 yJ1_indexOfChar_4cfef, .static yJ1_indexOf_4cfef, .methodLink RJ0 637 yJ1_indexOf_4cfef, .instanceMethod yJ0_indexOf_7cf53, .selects RJ0 yJ0_indexOf_7cf53 yJ0_indexOf_7cf53, .methodLink RJ0 633 yJ0_indexOf_7cf53, .instanceMethod yJ0_indexOf_0f7a4, .selects RJ0 yJ0_indexOf_0f7a4 yJ0_indexOf_0f7a4, .methodLink RX3 103 yJ0_indexOf_0f7a4, .code yX10_takeNumber cX10_takeNumber 3 (some .boolean), .methodLink RX10 37 yX10_next, .methodLink RX10 45 yX10_isDigit, .fieldLink RX10 25 "LeftArguments$Tape" "number" "I", .code yX10_sign cX10_sign 1 (some .int), .instanceMethod yX10_sign, .selects RX10 yX10_sign yX10_sign, .methodLink RX10 49 yX10_sign, .methodLink RX10 41 yX10_wrongHere, .instanceMethod yX10_takeNumber, .selects RX10 yX10_takeNumber yX10_takeNumber, .methodLink RX3 95 yX10_takeNumber, .code yX10_number cX10_number 1 (some .int), .instanceMethod yX10_number, .selects RX10 yX10_number yX10_number, .methodLink RX3 98 yX10_number, .instanceMethod yX3_readAtom, .selects RX3 yX3_readAtom yX3_readAtom, .methodLink RX3 89 yX3_readAtom, .instanceMethod yX3_readTerm, .selects RX3 yX3_readTerm yX3_readTerm, .methodLink RX3 86 yX3_readTerm, .instanceMethod yX3_readSum, .selects RX3 yX3_readSum yX3_readSum, .methodLink RX3 59 yX3_readSum] : List Cond) ++ wsX30 ++ wsX100)
set_option maxRecDepth 20000 in
theorem g_X3_readUnit_0 : GoodIn q_X3_readUnit (wsV RX3 48 RX10 yX10_next q_X10_next) := goodIn_app (goodIn_r _ [9, 7, 8, 6] rfl (by decide +kernel)) (goodIn_ca (goodIn_r (.code yX10_next cX10_next 1 (some .int) :: [.fieldLink RX10 19 "LeftArguments$Tape" "at" "I", .fieldLink RX10 15 "LeftArguments$Tape" "used" "I", .fieldLink RX10 9 "LeftArguments$Tape" "bytes" "[I"]) [2, 3, 4, 5] rfl (by decide +kernel)) (goodIn_sub (fun _ h => List.mem_cons_of_mem _ (List.mem_append_right _ h)) gwX10))
set_option maxRecDepth 20000 in
theorem g_X3_readUnit_2 : GoodIn q_X3_readUnit (va_wsS RX3 62 yX3_comparing q_X3_comparing) := goodIn_app (goodIn_r _ [13, 12, 11] rfl (by decide +kernel)) (goodIn_r (.code yX3_comparing cX3_comparing 1 (some .int) :: []) [10] rfl (by decide +kernel))
set_option maxRecDepth 20000 in
theorem g_X3_readUnit_3 : GoodIn q_X3_readUnit (wsV RX3 77 RX10 yX10_step q_X10_step) := goodIn_app (goodIn_r _ [17, 15, 16, 6] rfl (by decide +kernel)) (goodIn_ca (goodIn_r (.code yX10_step cX10_step 1 none :: [.fieldLink RX10 19 "LeftArguments$Tape" "at" "I"]) [14, 3] rfl (by decide +kernel)) (goodIn_sub (fun _ h => List.mem_cons_of_mem _ (List.mem_append_right _ h)) gwX10))
set_option maxRecDepth 20000 in
theorem g_X3_readUnit_4 : GoodIn q_X3_readUnit (wsV RX3 59 RX3 yX3_readSum q_X3_readSum) := goodIn_app (goodIn_r _ [100, 98, 99, 11] rfl (by decide +kernel)) (goodIn_ca (goodIn_ca (goodIn_r (.code yX3_readSum cX3_readSum 4 (some .boolean) :: [.code yX3_readTerm cX3_readTerm 4 (some .boolean), .code yX3_readAtom cX3_readAtom 4 (some .boolean), .fieldLink RX3 19 "LeftArguments$LawReader" "tape" "LLeftArguments$Tape;", .code yX10_next cX10_next 1 (some .int), .fieldLink RX10 19 "LeftArguments$Tape" "at" "I", .fieldLink RX10 15 "LeftArguments$Tape" "used" "I", .fieldLink RX10 9 "LeftArguments$Tape" "bytes" "[I", .initialized RX10, .instanceMethod yX10_next, .selects RX10 yX10_next yX10_next, .methodLink RX3 48 yX10_next, .code yX10_isDigit cX10_isDigit 1 (some .boolean), .static yX10_isDigit, .methodLink RX3 92 yX10_isDigit, .code yX10_step cX10_step 1 none, .instanceMethod yX10_step, .selects RX10 yX10_step yX10_step, .methodLink RX3 77 yX10_step, .code yX3_write cX3_write 3 none, .fieldLink RX3 15 "LeftArguments$LawReader" "used" "I", .fieldLink RX3 11 "LeftArguments$LawReader" "code" "[I", .initialized RX3, .instanceMethod yX3_write, .selects RX3 yX3_write yX3_write, .methodLink RX3 66 yX3_write, .code yX10_wrongHere cX10_wrongHere 1 (some .boolean), .fieldLink RX10 22 "LeftArguments$Tape" "wrongAt" "I", .instanceMethod yX10_wrongHere, .selects RX10 yX10_wrongHere yX10_wrongHere, .methodLink RX3 83 yX10_wrongHere, .code yJ0_indexOf_0f7a4 cJ0_indexOf_0f7a4 2 (some .int), .code yJ0_indexOf_7cf53 cJ0_indexOf_7cf53 3 (some .int), .code yJ0_isLatin1_aae02 cJ0_isLatin1_aae02 1 (some .boolean), .fieldLink RJ0 38 "java/lang/String" "COMPACT_STRINGS" "Z", .fieldLink RJ0 15 "java/lang/String" "coder" "B", .initialized RJ0, .instanceMethod yJ0_isLatin1_aae02, .selects RJ0 yJ0_isLatin1_aae02 yJ0_isLatin1_aae02, .methodLink RJ0 492 yJ0_isLatin1_aae02, .fieldLink RJ0 9 "java/lang/String" "value" "[B", .code yJ0_length_8abf5 cJ0_length_8abf5 1 (some .int), .code yJ0_coder_7d493 cJ0_coder_7d493 1 (some .byte), .instanceMethod yJ0_coder_7d493, .selects RJ0 yJ0_coder_7d493 yJ0_coder_7d493, .methodLink RJ0 335 yJ0_coder_7d493, .instanceMethod yJ0_length_8abf5, .selects RJ0 yJ0_length_8abf5 yJ0_length_8abf5, .methodLink RJ0 505 yJ0_length_8abf5, .code yJ1_indexOf_4cfef cJ1_indexOf_4cfef 4 (some .int), .code yJ1_canEncode_9a6ad cJ1_canEncode_9a6ad 1 (some .boolean), .initialized RJ1, .static yJ1_canEncode_9a6ad, .methodLink RJ1 88 yJ1_canEncode_9a6ad, .methodLink RJ1 92 Lib.Math.max.name, .static Lib.Math.max.name, .initialized "java/lang/Math", .code Lib.Math.max.name Lib.Math.max.code 2 (some .int), .methodLink RJ1 38 Lib.Math.min.name, .static Lib.Math.min.name, .code Lib.Math.min.name Lib.Math.min.code 2 (some .int), .code yJ1_indexOfChar_4cfef cJ1_indexOfChar_4cfef 6 (some .int), .static yJ1_indexOfChar_4cfef, .methodLink RJ1 95 yJ1_indexOfChar_4cfef, .static yJ1_indexOf_4cfef, .methodLink RJ0 637 yJ1_indexOf_4cfef, .instanceMethod yJ0_indexOf_7cf53, .selects RJ0 yJ0_indexOf_7cf53 yJ0_indexOf_7cf53, .methodLink RJ0 633 yJ0_indexOf_7cf53, .instanceMethod yJ0_indexOf_0f7a4, .selects RJ0 yJ0_indexOf_0f7a4 yJ0_indexOf_0f7a4, .methodLink RX3 103 yJ0_indexOf_0f7a4, .code yX10_takeNumber cX10_takeNumber 3 (some .boolean), .methodLink RX10 37 yX10_next, .methodLink RX10 45 yX10_isDigit, .fieldLink RX10 25 "LeftArguments$Tape" "number" "I", .code yX10_sign cX10_sign 1 (some .int), .instanceMethod yX10_sign, .selects RX10 yX10_sign yX10_sign, .methodLink RX10 49 yX10_sign, .methodLink RX10 41 yX10_wrongHere, .instanceMethod yX10_takeNumber, .selects RX10 yX10_takeNumber yX10_takeNumber, .methodLink RX3 95 yX10_takeNumber, .code yX10_number cX10_number 1 (some .int), .instanceMethod yX10_number, .selects RX10 yX10_number yX10_number, .methodLink RX3 98 yX10_number, .instanceMethod yX3_readAtom, .selects RX3 yX3_readAtom yX3_readAtom, .methodLink RX3 89 yX3_readAtom, .instanceMethod yX3_readTerm, .selects RX3 yX3_readTerm yX3_readTerm, .methodLink RX3 86 yX3_readTerm]) [18, 19, 20, 1, 2, 3, 4, 5, 6, 7, 8, 9, 21, 22, 23, 14, 15, 16, 17, 24, 25, 26, 11, 27, 28, 29, 30, 31, 32, 33, 34, 35, 36, 37, 38, 39, 40, 41, 42, 43, 44, 45, 46, 47, 48, 49, 50, 51, 52, 53, 54, 55, 56, 57, 58, 59, 60, 61, 62, 63, 64, 65, 66, 67, 68, 69, 70, 71, 72, 73, 74, 75, 76, 77, 78, 79, 80, 81, 82, 83, 84, 85, 86, 87, 88, 89, 90, 91, 92, 93, 94, 95, 96, 97] rfl (by decide +kernel)) (goodIn_sub (fun _ h => List.mem_cons_of_mem _ (List.mem_append_left _ (List.mem_append_right _ h))) gwX3)) (goodIn_sub (fun _ h => List.mem_cons_of_mem _ (List.mem_append_right _ h)) gwX10))
set_option maxRecDepth 20000 in
theorem g_X3_readUnit_5 : GoodIn q_X3_readUnit (wsV RX3 66 RX3 yX3_write q_X3_write) := goodIn_app (goodIn_r _ [29, 27, 28, 11] rfl (by decide +kernel)) (goodIn_ca (goodIn_r (.code yX3_write cX3_write 3 none :: [.fieldLink RX3 15 "LeftArguments$LawReader" "used" "I", .fieldLink RX3 11 "LeftArguments$LawReader" "code" "[I"]) [24, 25, 26] rfl (by decide +kernel)) (goodIn_sub (fun _ h => List.mem_cons_of_mem _ (List.mem_append_left _ (List.mem_append_right _ h))) gwX3))
set_option maxRecDepth 20000 in
theorem g_X3_readUnit_6 : GoodIn q_X3_readUnit (wsV RX3 83 RX10 yX10_wrongHere q_X10_wrongHere) := goodIn_app (goodIn_r _ [34, 32, 33, 6] rfl (by decide +kernel)) (goodIn_ca (goodIn_r (.code yX10_wrongHere cX10_wrongHere 1 (some .boolean) :: [.fieldLink RX10 19 "LeftArguments$Tape" "at" "I", .fieldLink RX10 22 "LeftArguments$Tape" "wrongAt" "I"]) [30, 3, 31] rfl (by decide +kernel)) (goodIn_sub (fun _ h => List.mem_cons_of_mem _ (List.mem_append_right _ h)) gwX10))
set_option maxHeartbeats 4000000 in
set_option maxRecDepth 100000 in
theorem k_X3_readUnit (l : Launch) (dC : Nat → ClassId) (dI : Nat → Nat → Nat) (adK : Nat → Nat) (adV : Nat → Nat) (h0 : Nat) (h1 : Nat) (h2 : Nat) (h3 : Nat) (v0 : Int32) (v1 : Int32) (v2 : Int32) (v3 : Int32) (v4 : Int32) (g0 : ClassId) (f5 : Nat → Int32) (g1 : ClassId) (f6 : Nat → Int32) (v7 : Int32) (i_v0 : 0 ≤ v0.toInt ∧ v0.toInt ≤ 256) (i_v1 : 0 ≤ v1.toInt ∧ v1.toInt ≤ 240) (i_v7 : 0 ≤ v7.toInt ∧ v7.toInt ≤ 1) (sz : Nat) : Met l yX3_readUnit q_X3_readUnit ({ frames := 7, cells := 0, slots := 0, locals := 160 }) (va_Pc [.ref h0, .int 6, .int v7] (fun U => U.heap.size = sz ∧ va_P (dC, dI) vwCl (wd_1ad0248d h0 h1 h3 v0 h1 h2 v1 v2 v3 v4 h2 g0 f5 h3 g1 f6) U.heap ∧ va_K (dC, dI) vwCl [(g0, .int), (g1, .int)] U ∧ va_D (fun _ => True) (wd_1ad0248d h0 h1 h3 v0 h1 h2 v1 v2 v3 v4 h2 g0 f5 h3 g1 f6) ∧ vk_R RX3 101 "zaondt" (adK 2) U ∧ va_Z "java/lang/String" "COMPACT_STRINGS" "Z" (.int 1) (va_A (wd_1ad0248d h0 h1 h3 v0 h1 h2 v1 v2 v3 v4 h2 g0 f5 h3 g1 f6) sz) U U.heap ∧ vk_S 3 pv_len3 pv_byt3 adK adV (va_A (wd_1ad0248d h0 h1 h3 v0 h1 h2 v1 v2 v3 v4 h2 g0 f5 h3 g1 f6) sz) U U.heap)) (va_Qi (fun (r : Int32) (_ : Unit) => 0 ≤ r.toInt ∧ r.toInt ≤ 1) (fun (_ : Unit) (t : State) => ∃ (o_h0_2 : Int32) (o_h1_2 : Int32) (o_h1_3 : Int32) (o_h1_4 : Int32) (o_h3 : Nat → Int32), 0 ≤ o_h0_2.toInt ∧ o_h0_2.toInt ≤ 256 ∧ va_P (dC, dI) vwCl (wd_1ad0248d h0 h1 h3 o_h0_2 h1 h2 v1 o_h1_2 o_h1_3 o_h1_4 h2 g0 f5 h3 g1 o_h3) t.heap ∧ va_K (dC, dI) vwCl [] t ∧ va_D (va_A (wd_1ad0248d h0 h1 h3 v0 h1 h2 v1 v2 v3 v4 h2 g0 f5 h3 g1 f6) sz) (wd_1ad0248d h0 h1 h3 o_h0_2 h1 h2 v1 o_h1_2 o_h1_3 o_h1_4 h2 g0 f5 h3 g1 o_h3)) (va_A (wd_1ad0248d h0 h1 h3 v0 h1 h2 v1 v2 v3 v4 h2 g0 f5 h3 g1 f6) sz)) 0 0 (va_A (wd_1ad0248d h0 h1 h3 v0 h1 h2 v1 v2 v3 v4 h2 g0 f5 h3 g1 f6) sz) := by
  refine Met.ofW (cc := cX3_readUnit) (maxL := 5) (ret := (some .boolean)) (by decide) rfl ?_
  intro p e s m args below meth c s₁ B hml hv
  obtain ⟨i_v0a, i_v0b⟩ := i_v0
  obtain ⟨i_v1a, i_v1b⟩ := i_v1
  obtain ⟨i_v7a, i_v7b⟩ := i_v7
  obtain ⟨rfl, hsz, hP, hK, hD0, h_vr_2, h_st_CS, h_st_S⟩ := hv
  have hx := B.exec
  have hb := B.bytes
  have hr := B.returns
  have hts := atoms_spec (ws := q_X3_readUnit) B.pre
  have hown : s.vm.findClass RX3 = some m.cls := findClass_of_methodNamed B.named
  have hlocks := B.notSynchronized
  subst hsz
  have hD := hD0.self (sz := s.heap.size)
  generalize hAe : va_A (wd_1ad0248d h0 h1 h3 v0 h1 h2 v1 v2 v3 v4 h2 g0 f5 h3 g1 f6) s.heap.size = A at hD h_st_CS h_st_S ⊢
  have hA : ∀ q : Nat, s.heap.size ≤ q → A q := fun q h => by rw [← hAe]; exact Or.inr h
  have hS : va_S A s.heap s.heap [] := va_S.rf
  generalize hQ : (MQ below _ _ s 0 0 A) = Q
  have hl := lv_entry ([.ref h0, .int 6, .int v7]) (n := 5) (Nat.le_of_ble_eq_true rfl)
  rw [lg_entry_eq]
  generalize (lg_sl ([.ref h0, .int 6, .int v7]) ++ List.replicate (5 - (lg_sl ([.ref h0, .int 6, .int v7])).length) Slot.unset).toArray = ls at hl ⊢
  have hl : lv_has ls 5 [(0, .ref h0), (1, .int 6), (2, .int v7)] := hl
  obtain ⟨H, hH⟩ : ∃ H : Heap, H = s.heap := ⟨_, rfl⟩
  obtain ⟨locs, hlocs⟩ : ∃ y : List Loc, y = [] := ⟨_, rfl⟩
  have hS : va_S A s.heap H locs := by rw [hH, hlocs]; exact va_S.rf
  have hP : va_P (dC, dI) vwCl (wd_1ad0248d h0 h1 h3 v0 h1 h2 v1 v2 v3 v4 h2 g0 f5 h3 g1 f6) H := by rw [hH]; exact hP
  rw [← hH, ← hlocs]
  refine lv_aload_n hx hb dX3_readUnit_0 rfl (lv_at hl 0 rfl) ?_
  refine va_get (D := (dC, dI)) (ci := 3) (v := .ref h1) (C := RX3) (T := TX3) (N := 3) hx hb hts (fun _ h => List.mem_cons_of_mem _ (List.mem_append_left _ (List.mem_append_right _ h))) hown hK hP 0 rfl rfl 0 (by decide) (hts (.fieldLink RX3 19 "LeftArguments$LawReader" "tape" "LLeftArguments$Tape;") (List.mem_cons_of_mem _ (List.mem_append_left _ (List.mem_append_left _ (List.mem_of_getElem? (i := 0) rfl))))) (fun _ h9 => h9) rfl dX3_readUnit_1 ?_
  have hPc := hP.sub (ws' := (wd_82cdd16b h1 h2 v1 v2 v3 v4 h2 g0 f5)) [1, 2] rfl
  have hDc := hD.sub (ws' := (wd_82cdd16b h1 h2 v1 v2 v3 v4 h2 g0 f5)) [1, 2] (by decide) rfl
  have hKc := hK.sub (tys' := [(g0, .int)]) [0] rfl
  have hFc := va_free (wc := (wd_82cdd16b h1 h2 v1 v2 v3 v4 h2 g0 f5)) hD hS hA [1, 2] rfl
  refine va_calli (va_runV (As := []) (rest := []) ⟨hx, hb, hml, hown, hts⟩ (k_X10_next l dC dI h1 h2 v1 v2 v3 v4 g0 f5 ⟨by first | omega | decide, by first | omega | decide⟩ H.size) (cwV 0 hts g_X3_readUnit_0 rfl rfl rfl (by decide +kernel) ⟨Nat.le_of_ble_eq_true rfl, Nat.le_of_ble_eq_true rfl⟩) ⟨fun a U g mk q => by obtain ⟨q0, q1, qP, qK, qD⟩ := q; exact ⟨q0, q1, qP, va_K.moved (u := U) (U := U.calling g mk a) (Vm.Alike.refl U.vm) qK, qD⟩, va_recv hKc hPc (ci := 10) (q0 := 0) rfl rfl, fun U hU hW => ⟨rfl, by rw [hU], by rw [hU]; exact hPc, va_K.moved hW.alike hKc, hDc.weaken (fun _ _ _ _ => trivial)⟩⟩ rfl rfl hl.1 rfl (lv_room (Nat.le_of_ble_eq_true rfl)) dX3_readUnit_4 ⟨Nat.le_of_ble_eq_true rfl, Nat.le_of_ble_eq_true rfl⟩) hS (fun q _ h => hFc q h) hFc (fun ra1 u t H1 locs ht hvm hwra1 hB hz1 hk1 hS => ?_)
  obtain ⟨x2, hP1, hK1, hD1⟩ := hB
  rw [ht] at hP1
  obtain ⟨hP, hD⟩ := va_join (wr := (wd_b958b9da h0 h1 h3 v0 h3 g1 f6)) (w1 := (wd_82cdd16b h1 h2 v1 x2 v3 v4 h2 g0 f5)) hP hD [1, 2] [0, 3] rfl rfl (by decide) (by decide) hk1 hFc hP1 hD1
  generalize H1 = H at hP hS ⊢
  have hP := hP.sub (ws' := (wd_1ad0248d h0 h1 h3 v0 h1 h2 v1 x2 v3 v4 h2 g0 f5 h3 g1 f6)) [0, 2, 3, 1] rfl
  have hD := hD.sub (ws' := (wd_1ad0248d h0 h1 h3 v0 h1 h2 v1 x2 v3 v4 h2 g0 f5 h3 g1 f6)) [0, 2, 3, 1] (by decide) rfl
  have hP : va_P (dC, dI) vwCl (wd_1ad0248d h0 h1 h3 v0 h1 h2 v1 x2 v3 v4 h2 g0 f5 h3 g1 f6) H := hP
  have hD : va_D A (wd_1ad0248d h0 h1 h3 v0 h1 h2 v1 x2 v3 v4 h2 g0 f5 h3 g1 f6) := hD
  refine lv_istore_n (lv' := [(3, .int ra1), (0, .ref h0), (1, .int 6), (2, .int v7)]) hx hb dX3_readUnit_7 rfl hl (by decide) rfl (fun ls hl => ?_)
  refine lv_iload_n hx hb dX3_readUnit_8 rfl (lv_at hl 3 rfl) ?_
  refine lv_if_ne (tgt := 102) hx hb dX3_readUnit_9 (by decide) (fun c3 => ?_) (fun c3 => ?_)
  · skip
    have fc3 : ¬ (v7.toInt = 0) := fun h9 => c3 (Int32.toInt_inj.mp h9)
    refine lv_iload_n hx hb dX3_readUnit_102 rfl (lv_at hl 3 rfl) ?_
    refine lv_if_ne (tgt := 116) hx hb dX3_readUnit_103 (by decide) (fun _ => ?_) (fun c4 => by exfalso; have fc4 : v7.toInt = 0 := congrArg Int32.toInt c4; omega)
    refine lv_aload_n hx hb dX3_readUnit_116 rfl (lv_at hl 1 rfl) ?_
    refine va_get (D := (dC, dI)) (ci := 3) (v := .ref h1) (C := RX3) (T := TX3) (N := 3) hx hb hts (fun _ h => List.mem_cons_of_mem _ (List.mem_append_left _ (List.mem_append_right _ h))) hown hK hP 0 rfl rfl 0 (by decide) (hts (.fieldLink RX3 19 "LeftArguments$LawReader" "tape" "LLeftArguments$Tape;") (List.mem_cons_of_mem _ (List.mem_append_left _ (List.mem_append_left _ (List.mem_of_getElem? (i := 0) rfl))))) (fun _ h9 => h9) rfl dX3_readUnit_117 ?_
    have hPc := hP.sub (ws' := (wd_82cdd16b h1 h2 v1 x2 v3 v4 h2 g0 f5)) [1, 2] rfl
    have hDc := hD.sub (ws' := (wd_82cdd16b h1 h2 v1 x2 v3 v4 h2 g0 f5)) [1, 2] (by decide) rfl
    have hKc := hK.sub (tys' := [(g0, .int)]) [0] rfl
    have hFc := va_free (wc := (wd_82cdd16b h1 h2 v1 x2 v3 v4 h2 g0 f5)) hD hS hA [1, 2] rfl
    refine va_calli (va_runV (As := []) (rest := []) ⟨hx, hb, hml, hown, hts⟩ (k_X10_next l dC dI h1 h2 v1 x2 v3 v4 g0 f5 ⟨by first | omega | decide, by first | omega | decide⟩ H.size) (cwV 0 hts g_X3_readUnit_0 rfl rfl rfl (by decide +kernel) ⟨Nat.le_of_ble_eq_true rfl, Nat.le_of_ble_eq_true rfl⟩) ⟨fun a U g mk q => by obtain ⟨q0, q1, qP, qK, qD⟩ := q; exact ⟨q0, q1, qP, va_K.moved (u := U) (U := U.calling g mk a) (Vm.Alike.refl U.vm) qK, qD⟩, va_recv hKc hPc (ci := 10) (q0 := 0) rfl rfl, fun U hU hW => ⟨rfl, by rw [hU], by rw [hU]; exact hPc, va_K.moved hW.alike hKc, hDc.weaken (fun _ _ _ _ => trivial)⟩⟩ rfl rfl hl.1 rfl (lv_room (Nat.le_of_ble_eq_true rfl)) dX3_readUnit_120 ⟨Nat.le_of_ble_eq_true rfl, Nat.le_of_ble_eq_true rfl⟩) hS (fun q _ h => hFc q h) hFc (fun ra5 u t H1 locs ht hvm hwra5 hB hz1 hk1 hS => ?_)
    obtain ⟨x6, hP1, hK1, hD1⟩ := hB
    rw [ht] at hP1
    obtain ⟨hP, hD⟩ := va_join (wr := (wd_b958b9da h0 h1 h3 v0 h3 g1 f6)) (w1 := (wd_82cdd16b h1 h2 v1 x6 v3 v4 h2 g0 f5)) hP hD [1, 2] [0, 3] rfl rfl (by decide) (by decide) hk1 hFc hP1 hD1
    generalize H1 = H at hP hS ⊢
    have hP := hP.sub (ws' := (wd_1ad0248d h0 h1 h3 v0 h1 h2 v1 x6 v3 v4 h2 g0 f5 h3 g1 f6)) [0, 2, 3, 1] rfl
    have hD := hD.sub (ws' := (wd_1ad0248d h0 h1 h3 v0 h1 h2 v1 x6 v3 v4 h2 g0 f5 h3 g1 f6)) [0, 2, 3, 1] (by decide) rfl
    have hP : va_P (dC, dI) vwCl (wd_1ad0248d h0 h1 h3 v0 h1 h2 v1 x6 v3 v4 h2 g0 f5 h3 g1 f6) H := hP
    have hD : va_D A (wd_1ad0248d h0 h1 h3 v0 h1 h2 v1 x6 v3 v4 h2 g0 f5 h3 g1 f6) := hD
    have hPc := hP.sub (ws' := []) [] rfl
    have hDc := hD.sub (ws' := []) [] (by decide) rfl
    have hKc := hK.sub (tys' := []) [] rfl
    have hFc := va_free (wc := []) hD hS hA [] rfl
    refine va_calli (va_runS (As := [.int ra5]) (rest := []) ⟨hx, hb, hml, hown, hts⟩ (k_X3_comparing l dC dI ra5  H.size) (va_cwS 1 hts g_X3_readUnit_2 rfl rfl rfl (by decide +kernel) ⟨Nat.le_of_ble_eq_true rfl, Nat.le_of_ble_eq_true rfl⟩) ⟨fun a U g mk q => by obtain ⟨q0, q1, qP, qK, qD⟩ := q; exact ⟨q0, q1, qP, va_K.moved (u := U) (U := U.calling g mk a) (Vm.Alike.refl U.vm) qK, qD⟩, fun U hU hW => ⟨rfl, by rw [hU], by rw [hU]; exact hPc, va_K.moved hW.alike hKc, hDc.weaken (fun _ _ _ _ => trivial)⟩⟩ rfl rfl hl.1 rfl (lv_room (Nat.le_of_ble_eq_true rfl)) dX3_readUnit_123 ⟨Nat.le_of_ble_eq_true rfl, Nat.le_of_ble_eq_true rfl⟩) hS (fun q _ h => hFc q h) hFc (fun ra7 u t H1 locs ht hvm hwra7 hB hz1 hk1 hS => ?_)
    obtain ⟨hP1, hK1, hD1⟩ := hB
    rw [ht] at hP1
    obtain ⟨hP, hD⟩ := va_join (wr := (wd_1ad0248d h0 h1 h3 v0 h1 h2 v1 x6 v3 v4 h2 g0 f5 h3 g1 f6)) (w1 := []) hP hD [] [0, 1, 2, 3] rfl rfl (by decide) (by decide) hk1 hFc hP1 hD1
    generalize H1 = H at hP hS ⊢
    have hP : va_P (dC, dI) vwCl (wd_1ad0248d h0 h1 h3 v0 h1 h2 v1 x6 v3 v4 h2 g0 f5 h3 g1 f6) H := hP
    have hD : va_D A (wd_1ad0248d h0 h1 h3 v0 h1 h2 v1 x6 v3 v4 h2 g0 f5 h3 g1 f6) := hD
    obtain ⟨wa_ra7, wb_ra7⟩ := hwra7
    have wa_ra7 : -1 ≤ ra7.toInt := wa_ra7
    have wb_ra7 : ra7.toInt ≤ 8 := wb_ra7
    refine lv_istore (lv' := [(4, .int ra7), (3, .int ra1), (0, .ref h0), (1, .int 6), (2, .int v7)]) hx hb dX3_readUnit_126 hl (by decide) rfl (fun ls hl => ?_)
    refine lv_iload hx hb dX3_readUnit_128 (lv_at hl 0 rfl) ?_
    refine lv_iconst (v := (-1)) hx hb dX3_readUnit_130 (by decide) ?_
    refine lv_icmp_ne (tgt := 142) hx hb dX3_readUnit_131 (by decide) (fun c8 => ?_) (fun c8 => ?_)
    · skip
      have fc8 : ¬ (ra7.toInt = (-1)) := fun h9 => c8 (Int32.toInt_inj.mp h9)
      refine lv_aload_n hx hb dX3_readUnit_142 rfl (lv_at hl 2 rfl) ?_
      refine va_get (D := (dC, dI)) (ci := 3) (v := .ref h1) (C := RX3) (T := TX3) (N := 3) hx hb hts (fun _ h => List.mem_cons_of_mem _ (List.mem_append_left _ (List.mem_append_right _ h))) hown hK hP 0 rfl rfl 0 (by decide) (hts (.fieldLink RX3 19 "LeftArguments$LawReader" "tape" "LLeftArguments$Tape;") (List.mem_cons_of_mem _ (List.mem_append_left _ (List.mem_append_left _ (List.mem_of_getElem? (i := 0) rfl))))) (fun _ h9 => h9) rfl dX3_readUnit_143 ?_
      have hPc := hP.sub (ws' := (wd_09b0abee h1 h2 v1 x6 v3 v4)) [1] rfl
      have hDc := hD.sub (ws' := (wd_09b0abee h1 h2 v1 x6 v3 v4)) [1] (by decide) rfl
      have hKc := hK.sub (tys' := []) [] rfl
      have hFc := va_free (wc := (wd_09b0abee h1 h2 v1 x6 v3 v4)) hD hS hA [1] rfl
      refine va_callv (va_runV (As := []) (rest := []) ⟨hx, hb, hml, hown, hts⟩ (k_X10_step l dC dI h1 h2 v1 x6 v3 v4 ⟨by first | omega | decide, by first | omega | decide⟩ H.size) (cwV 0 hts g_X3_readUnit_3 rfl rfl rfl (by decide +kernel) ⟨Nat.le_of_ble_eq_true rfl, Nat.le_of_ble_eq_true rfl⟩) ⟨fun a U g mk q => by obtain ⟨q0, q1, qP, qK, qD⟩ := q; exact ⟨q0, q1, qP, va_K.moved (u := U) (U := U.calling g mk a) (Vm.Alike.refl U.vm) qK, qD⟩, va_recv hKc hPc (ci := 10) (q0 := 0) rfl rfl, fun U hU hW => ⟨rfl, by rw [hU], by rw [hU]; exact hPc, va_K.moved hW.alike hKc, hDc.weaken (fun _ _ _ _ => trivial)⟩⟩ rfl rfl hl.1 rfl (lv_room (Nat.le_of_ble_eq_true rfl)) dX3_readUnit_146 ⟨Nat.le_of_ble_eq_true rfl, Nat.le_of_ble_eq_true rfl⟩) hS (fun q _ h => hFc q h) hFc (fun u t H1 locs ht hvm hwra9 hB hz1 hk1 hS => ?_)
      obtain ⟨x10, hP1, hK1, hD1⟩ := hB
      rw [ht] at hP1
      obtain ⟨hP, hD⟩ := va_join (wr := (wd_6b0d8e05 h0 h1 h3 v0 h2 g0 f5 h3 g1 f6)) (w1 := (wd_09b0abee h1 h2 v1 x10 v3 v4)) hP hD [1] [0, 2, 3] rfl rfl (by decide) (by decide) hk1 hFc hP1 hD1
      generalize H1 = H at hP hS ⊢
      have hP := hP.sub (ws' := (wd_1ad0248d h0 h1 h3 v0 h1 h2 v1 x10 v3 v4 h2 g0 f5 h3 g1 f6)) [0, 3, 1, 2] rfl
      have hD := hD.sub (ws' := (wd_1ad0248d h0 h1 h3 v0 h1 h2 v1 x10 v3 v4 h2 g0 f5 h3 g1 f6)) [0, 3, 1, 2] (by decide) rfl
      have hP : va_P (dC, dI) vwCl (wd_1ad0248d h0 h1 h3 v0 h1 h2 v1 x10 v3 v4 h2 g0 f5 h3 g1 f6) H := hP
      have hD : va_D A (wd_1ad0248d h0 h1 h3 v0 h1 h2 v1 x10 v3 v4 h2 g0 f5 h3 g1 f6) := hD
      refine lv_aload_n hx hb dX3_readUnit_149 rfl (lv_at hl 2 rfl) ?_
      refine lv_iload_n hx hb dX3_readUnit_150 rfl (lv_at hl 3 rfl) ?_
      have hPc := hP.sub (ws' := (wd_1ad0248d h0 h1 h3 v0 h1 h2 v1 x10 v3 v4 h2 g0 f5 h3 g1 f6)) [0, 1, 2, 3] rfl
      have hDc := hD.sub (ws' := (wd_1ad0248d h0 h1 h3 v0 h1 h2 v1 x10 v3 v4 h2 g0 f5 h3 g1 f6)) [0, 1, 2, 3] (by decide) rfl
      have hKc := hK.sub (tys' := [(g0, .int), (g1, .int)]) [0, 1] rfl
      have hFc := va_free (wc := (wd_1ad0248d h0 h1 h3 v0 h1 h2 v1 x10 v3 v4 h2 g0 f5 h3 g1 f6)) hD hS hA [0, 1, 2, 3] rfl
      refine va_calli (va_runV (As := [.int 6]) (rest := []) ⟨hx, hb, hml, hown, hts⟩ (k_X3_readSum l dC dI adK adV h0 h1 h2 h3 v0 v1 x10 v3 v4 g0 f5 g1 f6 ⟨by first | omega | decide, by first | omega | decide⟩ ⟨by first | omega | decide, by first | omega | decide⟩ H.size) (cwV 1 hts g_X3_readUnit_4 rfl rfl rfl (by decide +kernel) ⟨Nat.le_of_ble_eq_true rfl, Nat.le_of_ble_eq_true rfl⟩) ⟨fun a U g mk q => by obtain ⟨q0, q1, qP, qK, qD, n0, n1, n2⟩ := q; exact ⟨q0, q1, qP, va_K.moved (u := U) (U := U.calling g mk a) (Vm.Alike.refl U.vm) qK, qD, vk_R.same rfl n0, va_Z.moved (Vm.Alike.refl _) n1, vk_S.moved (Vm.Alike.refl _) n2⟩, va_recv hKc hPc (ci := 3) (q0 := 0) rfl rfl, fun U hU hW => ⟨rfl, by rw [hU], by rw [hU]; exact hPc, va_K.moved hW.alike hKc, hDc.weaken (fun _ _ _ _ => trivial), vk_R.warm hW h_vr_2, (by rw [hU]; exact (va_Z.moved hW.alike (va_Z.kept h_st_CS hS.2.1)).narrow hFc), (by rw [hU]; exact (vk_S.moved hW.alike (vk_S.kept h_st_S hS.2.1)).narrow hFc)⟩⟩ rfl rfl hl.1 rfl (lv_room (Nat.le_of_ble_eq_true rfl)) dX3_readUnit_151 ⟨Nat.le_of_ble_eq_true rfl, Nat.le_of_ble_eq_true rfl⟩) hS (fun q _ h => hFc q h) hFc (fun ra11 u t H1 locs ht hvm hwra11 hB hz1 hk1 hS => ?_)
      obtain ⟨x12, x13, x14, x15, fn16, oa_x12, ob_x12, hP1, hK1, hD1⟩ := hB
      rw [ht] at hP1
      obtain ⟨hP, hD⟩ := va_join (wr := []) (w1 := (wd_1ad0248d h0 h1 h3 x12 h1 h2 v1 x13 x14 x15 h2 g0 f5 h3 g1 fn16)) hP hD [0, 1, 2, 3] [] rfl rfl (by decide) (by decide) hk1 hFc hP1 hD1
      generalize H1 = H at hP hS ⊢
      have hP : va_P (dC, dI) vwCl (wd_1ad0248d h0 h1 h3 x12 h1 h2 v1 x13 x14 x15 h2 g0 f5 h3 g1 fn16) H := hP
      have hD : va_D A (wd_1ad0248d h0 h1 h3 x12 h1 h2 v1 x13 x14 x15 h2 g0 f5 h3 g1 fn16) := hD
      obtain ⟨wa_ra11, wb_ra11⟩ := hwra11
      have wa_ra11 : 0 ≤ ra11.toInt := wa_ra11
      have wb_ra11 : ra11.toInt ≤ 1 := wb_ra11
      refine lv_if_ne (tgt := 159) hx hb dX3_readUnit_154 (by decide) (fun c17 => ?_) (fun c17 => ?_)
      · skip
        have fc17 : ¬ (ra11.toInt = 0) := fun h9 => c17 (Int32.toInt_inj.mp h9)
        refine lv_aload_n hx hb dX3_readUnit_159 rfl (lv_at hl 2 rfl) ?_
        refine lv_iload hx hb dX3_readUnit_160 (lv_at hl 0 rfl) ?_
        refine lv_iconst (v := 0) hx hb dX3_readUnit_162 (by decide) ?_
        have hPc := hP.sub (ws' := (wd_b958b9da h0 h1 h3 x12 h3 g1 fn16)) [0, 3] rfl
        have hDc := hD.sub (ws' := (wd_b958b9da h0 h1 h3 x12 h3 g1 fn16)) [0, 3] (by decide) rfl
        have hKc := hK.sub (tys' := [(g1, .int)]) [1] rfl
        have hFc := va_free (wc := (wd_b958b9da h0 h1 h3 x12 h3 g1 fn16)) hD hS hA [0, 3] rfl
        refine va_callv (va_runV (As := [.int ra7, .int 0]) (rest := []) ⟨hx, hb, hml, hown, hts⟩ (k_X3_write l dC dI h0 h3 h1 x12 g1 fn16 ra7 0 ⟨by first | omega | decide, by first | omega | decide⟩ H.size) (cwV 2 hts g_X3_readUnit_5 rfl rfl rfl (by decide +kernel) ⟨Nat.le_of_ble_eq_true rfl, Nat.le_of_ble_eq_true rfl⟩) ⟨fun a U g mk q => by obtain ⟨q0, q1, qP, qK, qD⟩ := q; exact ⟨q0, q1, qP, va_K.moved (u := U) (U := U.calling g mk a) (Vm.Alike.refl U.vm) qK, qD⟩, va_recv hKc hPc (ci := 3) (q0 := 0) rfl rfl, fun U hU hW => ⟨rfl, by rw [hU], by rw [hU]; exact hPc, va_K.moved hW.alike hKc, hDc.weaken (fun _ _ _ _ => trivial)⟩⟩ rfl rfl hl.1 rfl (lv_room (Nat.le_of_ble_eq_true rfl)) dX3_readUnit_163 ⟨Nat.le_of_ble_eq_true rfl, Nat.le_of_ble_eq_true rfl⟩) hS (fun q _ h => hFc q h) hFc (fun u t H1 locs ht hvm hwra18 hB hz1 hk1 hS => ?_)
        obtain ⟨x19, fn20, oa_x19, ob_x19, hP1, hK1, hD1⟩ := hB
        rw [ht] at hP1
        obtain ⟨hP, hD⟩ := va_join (wr := (wd_82cdd16b h1 h2 v1 x13 x14 x15 h2 g0 f5)) (w1 := (wd_b958b9da h0 h1 h3 x19 h3 g1 fn20)) hP hD [0, 3] [1, 2] rfl rfl (by decide) (by decide) hk1 hFc hP1 hD1
        generalize H1 = H at hP hS ⊢
        have hP := hP.sub (ws' := (wd_1ad0248d h0 h1 h3 x19 h1 h2 v1 x13 x14 x15 h2 g0 f5 h3 g1 fn20)) [2, 0, 1, 3] rfl
        have hD := hD.sub (ws' := (wd_1ad0248d h0 h1 h3 x19 h1 h2 v1 x13 x14 x15 h2 g0 f5 h3 g1 fn20)) [2, 0, 1, 3] (by decide) rfl
        have hP : va_P (dC, dI) vwCl (wd_1ad0248d h0 h1 h3 x19 h1 h2 v1 x13 x14 x15 h2 g0 f5 h3 g1 fn20) H := hP
        have hD : va_D A (wd_1ad0248d h0 h1 h3 x19 h1 h2 v1 x13 x14 x15 h2 g0 f5 h3 g1 fn20) := hD
        refine lv_iconst (v := 1) hx hb dX3_readUnit_166 (by decide) ?_
        subst hQ
        have hP9 := hP.sub (ws' := (wd_1ad0248d h0 h1 h3 x19 h1 h2 v1 x13 x14 x15 h2 g0 f5 h3 g1 fn20)) [0, 1, 2, 3] rfl
        have hD9 := hD.sub (ws' := (wd_1ad0248d h0 h1 h3 x19 h1 h2 v1 x13 x14 x15 h2 g0 f5 h3 g1 fn20)) [0, 1, 2, 3] (by decide) rfl
        have hK9 := hK.sub (tys' := []) [] rfl
        exact W.zret (v := 1) hx hb hr rfl (fun t ht hW => ⟨⟨1, (), rfl, ⟨by first | omega | decide, by first | omega | decide⟩, x19, x13, x14, x15, fn20, by first | omega | decide, by first | omega | decide, by rw [ht]; exact hP9, va_K.moved hW.alike hK9, hD9⟩, hS.F ht⟩) hS.2.2 dX3_readUnit_167
      · skip
        have fc17 : ra11.toInt = 0 := congrArg Int32.toInt c17
        refine lv_iconst (v := 0) hx hb dX3_readUnit_157 (by decide) ?_
        subst hQ
        have hP9 := hP.sub (ws' := (wd_1ad0248d h0 h1 h3 x12 h1 h2 v1 x13 x14 x15 h2 g0 f5 h3 g1 fn16)) [0, 1, 2, 3] rfl
        have hD9 := hD.sub (ws' := (wd_1ad0248d h0 h1 h3 x12 h1 h2 v1 x13 x14 x15 h2 g0 f5 h3 g1 fn16)) [0, 1, 2, 3] (by decide) rfl
        have hK9 := hK.sub (tys' := []) [] rfl
        exact W.zret (v := 0) hx hb hr rfl (fun t ht hW => ⟨⟨0, (), rfl, ⟨by first | omega | decide, by first | omega | decide⟩, x12, x13, x14, x15, fn16, by first | omega | decide, by first | omega | decide, by rw [ht]; exact hP9, va_K.moved hW.alike hK9, hD9⟩, hS.F ht⟩) hS.2.2 dX3_readUnit_158
    · skip
      have fc8 : ra7.toInt = (-1) := congrArg Int32.toInt c8
      refine lv_aload_n hx hb dX3_readUnit_134 rfl (lv_at hl 2 rfl) ?_
      refine va_get (D := (dC, dI)) (ci := 3) (v := .ref h1) (C := RX3) (T := TX3) (N := 3) hx hb hts (fun _ h => List.mem_cons_of_mem _ (List.mem_append_left _ (List.mem_append_right _ h))) hown hK hP 0 rfl rfl 0 (by decide) (hts (.fieldLink RX3 19 "LeftArguments$LawReader" "tape" "LLeftArguments$Tape;") (List.mem_cons_of_mem _ (List.mem_append_left _ (List.mem_append_left _ (List.mem_of_getElem? (i := 0) rfl))))) (fun _ h9 => h9) rfl dX3_readUnit_135 ?_
      have hPc := hP.sub (ws' := (wd_09b0abee h1 h2 v1 x6 v3 v4)) [1] rfl
      have hDc := hD.sub (ws' := (wd_09b0abee h1 h2 v1 x6 v3 v4)) [1] (by decide) rfl
      have hKc := hK.sub (tys' := []) [] rfl
      have hFc := va_free (wc := (wd_09b0abee h1 h2 v1 x6 v3 v4)) hD hS hA [1] rfl
      refine va_calli (va_runV (As := []) (rest := []) ⟨hx, hb, hml, hown, hts⟩ (k_X10_wrongHere l dC dI h1 h2 v1 x6 v3 v4 ⟨by first | omega | decide, by first | omega | decide⟩ H.size) (cwV 0 hts g_X3_readUnit_6 rfl rfl rfl (by decide +kernel) ⟨Nat.le_of_ble_eq_true rfl, Nat.le_of_ble_eq_true rfl⟩) ⟨fun a U g mk q => by obtain ⟨q0, q1, qP, qK, qD⟩ := q; exact ⟨q0, q1, qP, va_K.moved (u := U) (U := U.calling g mk a) (Vm.Alike.refl U.vm) qK, qD⟩, va_recv hKc hPc (ci := 10) (q0 := 0) rfl rfl, fun U hU hW => ⟨rfl, by rw [hU], by rw [hU]; exact hPc, va_K.moved hW.alike hKc, hDc.weaken (fun _ _ _ _ => trivial)⟩⟩ rfl rfl hl.1 rfl (lv_room (Nat.le_of_ble_eq_true rfl)) dX3_readUnit_138 ⟨Nat.le_of_ble_eq_true rfl, Nat.le_of_ble_eq_true rfl⟩) hS (fun q _ h => hFc q h) hFc (fun ra21 u t H1 locs ht hvm hwra21 hB hz1 hk1 hS => ?_)
      obtain ⟨x22, hP1, hK1, hD1⟩ := hB
      rw [ht] at hP1
      obtain ⟨hP, hD⟩ := va_join (wr := (wd_6b0d8e05 h0 h1 h3 v0 h2 g0 f5 h3 g1 f6)) (w1 := (wd_09b0abee h1 h2 v1 x6 x22 v4)) hP hD [1] [0, 2, 3] rfl rfl (by decide) (by decide) hk1 hFc hP1 hD1
      generalize H1 = H at hP hS ⊢
      have hP := hP.sub (ws' := (wd_1ad0248d h0 h1 h3 v0 h1 h2 v1 x6 x22 v4 h2 g0 f5 h3 g1 f6)) [0, 3, 1, 2] rfl
      have hD := hD.sub (ws' := (wd_1ad0248d h0 h1 h3 v0 h1 h2 v1 x6 x22 v4 h2 g0 f5 h3 g1 f6)) [0, 3, 1, 2] (by decide) rfl
      have hP : va_P (dC, dI) vwCl (wd_1ad0248d h0 h1 h3 v0 h1 h2 v1 x6 x22 v4 h2 g0 f5 h3 g1 f6) H := hP
      have hD : va_D A (wd_1ad0248d h0 h1 h3 v0 h1 h2 v1 x6 x22 v4 h2 g0 f5 h3 g1 f6) := hD
      obtain ⟨wa_ra21, wb_ra21⟩ := hwra21
      have wa_ra21 : 0 ≤ ra21.toInt := wa_ra21
      have wb_ra21 : ra21.toInt ≤ 0 := wb_ra21
      subst hQ
      have hP9 := hP.sub (ws' := (wd_1ad0248d h0 h1 h3 v0 h1 h2 v1 x6 x22 v4 h2 g0 f5 h3 g1 f6)) [0, 1, 2, 3] rfl
      have hD9 := hD.sub (ws' := (wd_1ad0248d h0 h1 h3 v0 h1 h2 v1 x6 x22 v4 h2 g0 f5 h3 g1 f6)) [0, 1, 2, 3] (by decide) rfl
      have hK9 := hK.sub (tys' := []) [] rfl
      exact W.zret (v := ra21) hx hb hr (pv_nz (by omega) (by omega)) (fun t ht hW => ⟨⟨ra21, (), rfl, ⟨by first | omega | decide, by first | omega | decide⟩, v0, x6, x22, v4, f6, by first | omega | decide, by first | omega | decide, by rw [ht]; exact hP9, va_K.moved hW.alike hK9, hD9⟩, hS.F ht⟩) hS.2.2 dX3_readUnit_141
  · skip
    have fc3 : v7.toInt = 0 := congrArg Int32.toInt c3
    refine lv_iload_n hx hb dX3_readUnit_12 rfl (lv_at hl 0 rfl) ?_
    refine lv_bipush (v := 33) hx hb dX3_readUnit_13 (by decide) ?_
    refine lv_icmp_eq (tgt := 24) hx hb dX3_readUnit_15 (by decide) (fun c23 => ?_) (fun c23 => ?_)
    · skip
      have fc23 : ra1.toInt = 33 := congrArg Int32.toInt c23
      refine lv_iload_n hx hb dX3_readUnit_24 rfl (lv_at hl 2 rfl) ?_
      refine lv_bipush (v := 6) hx hb dX3_readUnit_25 (by decide) ?_
      refine lv_icmp_lt (tgt := 38) hx hb dX3_readUnit_27 (by decide) (fun c => absurd c (by decide)) (fun _ => ?_)
      refine lv_aload_n hx hb dX3_readUnit_30 rfl (lv_at hl 1 rfl) ?_
      refine va_get (D := (dC, dI)) (ci := 3) (v := .ref h1) (C := RX3) (T := TX3) (N := 3) hx hb hts (fun _ h => List.mem_cons_of_mem _ (List.mem_append_left _ (List.mem_append_right _ h))) hown hK hP 0 rfl rfl 0 (by decide) (hts (.fieldLink RX3 19 "LeftArguments$LawReader" "tape" "LLeftArguments$Tape;") (List.mem_cons_of_mem _ (List.mem_append_left _ (List.mem_append_left _ (List.mem_of_getElem? (i := 0) rfl))))) (fun _ h9 => h9) rfl dX3_readUnit_31 ?_
      have hPc := hP.sub (ws' := (wd_09b0abee h1 h2 v1 x2 v3 v4)) [1] rfl
      have hDc := hD.sub (ws' := (wd_09b0abee h1 h2 v1 x2 v3 v4)) [1] (by decide) rfl
      have hKc := hK.sub (tys' := []) [] rfl
      have hFc := va_free (wc := (wd_09b0abee h1 h2 v1 x2 v3 v4)) hD hS hA [1] rfl
      refine va_calli (va_runV (As := []) (rest := []) ⟨hx, hb, hml, hown, hts⟩ (k_X10_wrongHere l dC dI h1 h2 v1 x2 v3 v4 ⟨by first | omega | decide, by first | omega | decide⟩ H.size) (cwV 0 hts g_X3_readUnit_6 rfl rfl rfl (by decide +kernel) ⟨Nat.le_of_ble_eq_true rfl, Nat.le_of_ble_eq_true rfl⟩) ⟨fun a U g mk q => by obtain ⟨q0, q1, qP, qK, qD⟩ := q; exact ⟨q0, q1, qP, va_K.moved (u := U) (U := U.calling g mk a) (Vm.Alike.refl U.vm) qK, qD⟩, va_recv hKc hPc (ci := 10) (q0 := 0) rfl rfl, fun U hU hW => ⟨rfl, by rw [hU], by rw [hU]; exact hPc, va_K.moved hW.alike hKc, hDc.weaken (fun _ _ _ _ => trivial)⟩⟩ rfl rfl hl.1 rfl (lv_room (Nat.le_of_ble_eq_true rfl)) dX3_readUnit_34 ⟨Nat.le_of_ble_eq_true rfl, Nat.le_of_ble_eq_true rfl⟩) hS (fun q _ h => hFc q h) hFc (fun ra24 u t H1 locs ht hvm hwra24 hB hz1 hk1 hS => ?_)
      obtain ⟨x25, hP1, hK1, hD1⟩ := hB
      rw [ht] at hP1
      obtain ⟨hP, hD⟩ := va_join (wr := (wd_6b0d8e05 h0 h1 h3 v0 h2 g0 f5 h3 g1 f6)) (w1 := (wd_09b0abee h1 h2 v1 x2 x25 v4)) hP hD [1] [0, 2, 3] rfl rfl (by decide) (by decide) hk1 hFc hP1 hD1
      generalize H1 = H at hP hS ⊢
      have hP := hP.sub (ws' := (wd_1ad0248d h0 h1 h3 v0 h1 h2 v1 x2 x25 v4 h2 g0 f5 h3 g1 f6)) [0, 3, 1, 2] rfl
      have hD := hD.sub (ws' := (wd_1ad0248d h0 h1 h3 v0 h1 h2 v1 x2 x25 v4 h2 g0 f5 h3 g1 f6)) [0, 3, 1, 2] (by decide) rfl
      have hP : va_P (dC, dI) vwCl (wd_1ad0248d h0 h1 h3 v0 h1 h2 v1 x2 x25 v4 h2 g0 f5 h3 g1 f6) H := hP
      have hD : va_D A (wd_1ad0248d h0 h1 h3 v0 h1 h2 v1 x2 x25 v4 h2 g0 f5 h3 g1 f6) := hD
      obtain ⟨wa_ra24, wb_ra24⟩ := hwra24
      have wa_ra24 : 0 ≤ ra24.toInt := wa_ra24
      have wb_ra24 : ra24.toInt ≤ 0 := wb_ra24
      subst hQ
      have hP9 := hP.sub (ws' := (wd_1ad0248d h0 h1 h3 v0 h1 h2 v1 x2 x25 v4 h2 g0 f5 h3 g1 f6)) [0, 1, 2, 3] rfl
      have hD9 := hD.sub (ws' := (wd_1ad0248d h0 h1 h3 v0 h1 h2 v1 x2 x25 v4 h2 g0 f5 h3 g1 f6)) [0, 1, 2, 3] (by decide) rfl
      have hK9 := hK.sub (tys' := []) [] rfl
      exact W.zret (v := ra24) hx hb hr (pv_nz (by omega) (by omega)) (fun t ht hW => ⟨⟨ra24, (), rfl, ⟨by first | omega | decide, by first | omega | decide⟩, v0, x2, x25, v4, f6, by first | omega | decide, by first | omega | decide, by rw [ht]; exact hP9, va_K.moved hW.alike hK9, hD9⟩, hS.F ht⟩) hS.2.2 dX3_readUnit_37
    · skip
      have fc23 : ¬ (ra1.toInt = 33) := fun h9 => c23 (Int32.toInt_inj.mp h9)
      refine lv_iload_n hx hb dX3_readUnit_18 rfl (lv_at hl 0 rfl) ?_
      refine lv_bipush (v := 40) hx hb dX3_readUnit_19 (by decide) ?_
      refine lv_icmp_ne (tgt := 102) hx hb dX3_readUnit_21 (by decide) (fun c26 => ?_) (fun c26 => ?_)
      · skip
        have fc26 : ¬ (ra1.toInt = 40) := fun h9 => c26 (Int32.toInt_inj.mp h9)
        refine lv_iload_n hx hb dX3_readUnit_102 rfl (lv_at hl 3 rfl) ?_
        refine lv_if_ne (tgt := 116) hx hb dX3_readUnit_103 (by decide) (fun c27 => by exfalso; have fc27 : ¬ (v7.toInt = 0) := fun h9 => c27 (Int32.toInt_inj.mp h9); omega) (fun _ => ?_)
        refine lv_aload_n hx hb dX3_readUnit_106 rfl (lv_at hl 1 rfl) ?_
        refine lv_iload_n hx hb dX3_readUnit_107 rfl (lv_at hl 2 rfl) ?_
        have hPc := hP.sub (ws' := (wd_1ad0248d h0 h1 h3 v0 h1 h2 v1 x2 v3 v4 h2 g0 f5 h3 g1 f6)) [0, 1, 2, 3] rfl
        have hDc := hD.sub (ws' := (wd_1ad0248d h0 h1 h3 v0 h1 h2 v1 x2 v3 v4 h2 g0 f5 h3 g1 f6)) [0, 1, 2, 3] (by decide) rfl
        have hKc := hK.sub (tys' := [(g0, .int), (g1, .int)]) [0, 1] rfl
        have hFc := va_free (wc := (wd_1ad0248d h0 h1 h3 v0 h1 h2 v1 x2 v3 v4 h2 g0 f5 h3 g1 f6)) hD hS hA [0, 1, 2, 3] rfl
        refine va_calli (va_runV (As := [.int 6]) (rest := []) ⟨hx, hb, hml, hown, hts⟩ (k_X3_readSum l dC dI adK adV h0 h1 h2 h3 v0 v1 x2 v3 v4 g0 f5 g1 f6 ⟨by first | omega | decide, by first | omega | decide⟩ ⟨by first | omega | decide, by first | omega | decide⟩ H.size) (cwV 1 hts g_X3_readUnit_4 rfl rfl rfl (by decide +kernel) ⟨Nat.le_of_ble_eq_true rfl, Nat.le_of_ble_eq_true rfl⟩) ⟨fun a U g mk q => by obtain ⟨q0, q1, qP, qK, qD, n0, n1, n2⟩ := q; exact ⟨q0, q1, qP, va_K.moved (u := U) (U := U.calling g mk a) (Vm.Alike.refl U.vm) qK, qD, vk_R.same rfl n0, va_Z.moved (Vm.Alike.refl _) n1, vk_S.moved (Vm.Alike.refl _) n2⟩, va_recv hKc hPc (ci := 3) (q0 := 0) rfl rfl, fun U hU hW => ⟨rfl, by rw [hU], by rw [hU]; exact hPc, va_K.moved hW.alike hKc, hDc.weaken (fun _ _ _ _ => trivial), vk_R.warm hW h_vr_2, (by rw [hU]; exact (va_Z.moved hW.alike (va_Z.kept h_st_CS hS.2.1)).narrow hFc), (by rw [hU]; exact (vk_S.moved hW.alike (vk_S.kept h_st_S hS.2.1)).narrow hFc)⟩⟩ rfl rfl hl.1 rfl (lv_room (Nat.le_of_ble_eq_true rfl)) dX3_readUnit_108 ⟨Nat.le_of_ble_eq_true rfl, Nat.le_of_ble_eq_true rfl⟩) hS (fun q _ h => hFc q h) hFc (fun ra28 u t H1 locs ht hvm hwra28 hB hz1 hk1 hS => ?_)
        obtain ⟨x29, x30, x31, x32, fn33, oa_x29, ob_x29, hP1, hK1, hD1⟩ := hB
        rw [ht] at hP1
        obtain ⟨hP, hD⟩ := va_join (wr := []) (w1 := (wd_1ad0248d h0 h1 h3 x29 h1 h2 v1 x30 x31 x32 h2 g0 f5 h3 g1 fn33)) hP hD [0, 1, 2, 3] [] rfl rfl (by decide) (by decide) hk1 hFc hP1 hD1
        generalize H1 = H at hP hS ⊢
        have hP : va_P (dC, dI) vwCl (wd_1ad0248d h0 h1 h3 x29 h1 h2 v1 x30 x31 x32 h2 g0 f5 h3 g1 fn33) H := hP
        have hD : va_D A (wd_1ad0248d h0 h1 h3 x29 h1 h2 v1 x30 x31 x32 h2 g0 f5 h3 g1 fn33) := hD
        obtain ⟨wa_ra28, wb_ra28⟩ := hwra28
        have wa_ra28 : 0 ≤ ra28.toInt := wa_ra28
        have wb_ra28 : ra28.toInt ≤ 1 := wb_ra28
        refine lv_if_ne (tgt := 116) hx hb dX3_readUnit_111 (by decide) (fun c34 => ?_) (fun c34 => ?_)
        · skip
          have fc34 : ¬ (ra28.toInt = 0) := fun h9 => c34 (Int32.toInt_inj.mp h9)
          refine lv_aload_n hx hb dX3_readUnit_116 rfl (lv_at hl 1 rfl) ?_
          refine va_get (D := (dC, dI)) (ci := 3) (v := .ref h1) (C := RX3) (T := TX3) (N := 3) hx hb hts (fun _ h => List.mem_cons_of_mem _ (List.mem_append_left _ (List.mem_append_right _ h))) hown hK hP 0 rfl rfl 0 (by decide) (hts (.fieldLink RX3 19 "LeftArguments$LawReader" "tape" "LLeftArguments$Tape;") (List.mem_cons_of_mem _ (List.mem_append_left _ (List.mem_append_left _ (List.mem_of_getElem? (i := 0) rfl))))) (fun _ h9 => h9) rfl dX3_readUnit_117 ?_
          have hPc := hP.sub (ws' := (wd_82cdd16b h1 h2 v1 x30 x31 x32 h2 g0 f5)) [1, 2] rfl
          have hDc := hD.sub (ws' := (wd_82cdd16b h1 h2 v1 x30 x31 x32 h2 g0 f5)) [1, 2] (by decide) rfl
          have hKc := hK.sub (tys' := [(g0, .int)]) [0] rfl
          have hFc := va_free (wc := (wd_82cdd16b h1 h2 v1 x30 x31 x32 h2 g0 f5)) hD hS hA [1, 2] rfl
          refine va_calli (va_runV (As := []) (rest := []) ⟨hx, hb, hml, hown, hts⟩ (k_X10_next l dC dI h1 h2 v1 x30 x31 x32 g0 f5 ⟨by first | omega | decide, by first | omega | decide⟩ H.size) (cwV 0 hts g_X3_readUnit_0 rfl rfl rfl (by decide +kernel) ⟨Nat.le_of_ble_eq_true rfl, Nat.le_of_ble_eq_true rfl⟩) ⟨fun a U g mk q => by obtain ⟨q0, q1, qP, qK, qD⟩ := q; exact ⟨q0, q1, qP, va_K.moved (u := U) (U := U.calling g mk a) (Vm.Alike.refl U.vm) qK, qD⟩, va_recv hKc hPc (ci := 10) (q0 := 0) rfl rfl, fun U hU hW => ⟨rfl, by rw [hU], by rw [hU]; exact hPc, va_K.moved hW.alike hKc, hDc.weaken (fun _ _ _ _ => trivial)⟩⟩ rfl rfl hl.1 rfl (lv_room (Nat.le_of_ble_eq_true rfl)) dX3_readUnit_120 ⟨Nat.le_of_ble_eq_true rfl, Nat.le_of_ble_eq_true rfl⟩) hS (fun q _ h => hFc q h) hFc (fun ra35 u t H1 locs ht hvm hwra35 hB hz1 hk1 hS => ?_)
          obtain ⟨x36, hP1, hK1, hD1⟩ := hB
          rw [ht] at hP1
          obtain ⟨hP, hD⟩ := va_join (wr := (wd_b958b9da h0 h1 h3 x29 h3 g1 fn33)) (w1 := (wd_82cdd16b h1 h2 v1 x36 x31 x32 h2 g0 f5)) hP hD [1, 2] [0, 3] rfl rfl (by decide) (by decide) hk1 hFc hP1 hD1
          generalize H1 = H at hP hS ⊢
          have hP := hP.sub (ws' := (wd_1ad0248d h0 h1 h3 x29 h1 h2 v1 x36 x31 x32 h2 g0 f5 h3 g1 fn33)) [0, 2, 3, 1] rfl
          have hD := hD.sub (ws' := (wd_1ad0248d h0 h1 h3 x29 h1 h2 v1 x36 x31 x32 h2 g0 f5 h3 g1 fn33)) [0, 2, 3, 1] (by decide) rfl
          have hP : va_P (dC, dI) vwCl (wd_1ad0248d h0 h1 h3 x29 h1 h2 v1 x36 x31 x32 h2 g0 f5 h3 g1 fn33) H := hP
          have hD : va_D A (wd_1ad0248d h0 h1 h3 x29 h1 h2 v1 x36 x31 x32 h2 g0 f5 h3 g1 fn33) := hD
          have hPc := hP.sub (ws' := []) [] rfl
          have hDc := hD.sub (ws' := []) [] (by decide) rfl
          have hKc := hK.sub (tys' := []) [] rfl
          have hFc := va_free (wc := []) hD hS hA [] rfl
          refine va_calli (va_runS (As := [.int ra35]) (rest := []) ⟨hx, hb, hml, hown, hts⟩ (k_X3_comparing l dC dI ra35  H.size) (va_cwS 1 hts g_X3_readUnit_2 rfl rfl rfl (by decide +kernel) ⟨Nat.le_of_ble_eq_true rfl, Nat.le_of_ble_eq_true rfl⟩) ⟨fun a U g mk q => by obtain ⟨q0, q1, qP, qK, qD⟩ := q; exact ⟨q0, q1, qP, va_K.moved (u := U) (U := U.calling g mk a) (Vm.Alike.refl U.vm) qK, qD⟩, fun U hU hW => ⟨rfl, by rw [hU], by rw [hU]; exact hPc, va_K.moved hW.alike hKc, hDc.weaken (fun _ _ _ _ => trivial)⟩⟩ rfl rfl hl.1 rfl (lv_room (Nat.le_of_ble_eq_true rfl)) dX3_readUnit_123 ⟨Nat.le_of_ble_eq_true rfl, Nat.le_of_ble_eq_true rfl⟩) hS (fun q _ h => hFc q h) hFc (fun ra37 u t H1 locs ht hvm hwra37 hB hz1 hk1 hS => ?_)
          obtain ⟨hP1, hK1, hD1⟩ := hB
          rw [ht] at hP1
          obtain ⟨hP, hD⟩ := va_join (wr := (wd_1ad0248d h0 h1 h3 x29 h1 h2 v1 x36 x31 x32 h2 g0 f5 h3 g1 fn33)) (w1 := []) hP hD [] [0, 1, 2, 3] rfl rfl (by decide) (by decide) hk1 hFc hP1 hD1
          generalize H1 = H at hP hS ⊢
          have hP : va_P (dC, dI) vwCl (wd_1ad0248d h0 h1 h3 x29 h1 h2 v1 x36 x31 x32 h2 g0 f5 h3 g1 fn33) H := hP
          have hD : va_D A (wd_1ad0248d h0 h1 h3 x29 h1 h2 v1 x36 x31 x32 h2 g0 f5 h3 g1 fn33) := hD
          obtain ⟨wa_ra37, wb_ra37⟩ := hwra37
          have wa_ra37 : -1 ≤ ra37.toInt := wa_ra37
          have wb_ra37 : ra37.toInt ≤ 8 := wb_ra37
          refine lv_istore (lv' := [(4, .int ra37), (3, .int ra1), (0, .ref h0), (1, .int 6), (2, .int v7)]) hx hb dX3_readUnit_126 hl (by decide) rfl (fun ls hl => ?_)
          refine lv_iload hx hb dX3_readUnit_128 (lv_at hl 0 rfl) ?_
          refine lv_iconst (v := (-1)) hx hb dX3_readUnit_130 (by decide) ?_
          refine lv_icmp_ne (tgt := 142) hx hb dX3_readUnit_131 (by decide) (fun c38 => ?_) (fun c38 => ?_)
          · skip
            have fc38 : ¬ (ra37.toInt = (-1)) := fun h9 => c38 (Int32.toInt_inj.mp h9)
            refine lv_aload_n hx hb dX3_readUnit_142 rfl (lv_at hl 2 rfl) ?_
            refine va_get (D := (dC, dI)) (ci := 3) (v := .ref h1) (C := RX3) (T := TX3) (N := 3) hx hb hts (fun _ h => List.mem_cons_of_mem _ (List.mem_append_left _ (List.mem_append_right _ h))) hown hK hP 0 rfl rfl 0 (by decide) (hts (.fieldLink RX3 19 "LeftArguments$LawReader" "tape" "LLeftArguments$Tape;") (List.mem_cons_of_mem _ (List.mem_append_left _ (List.mem_append_left _ (List.mem_of_getElem? (i := 0) rfl))))) (fun _ h9 => h9) rfl dX3_readUnit_143 ?_
            have hPc := hP.sub (ws' := (wd_09b0abee h1 h2 v1 x36 x31 x32)) [1] rfl
            have hDc := hD.sub (ws' := (wd_09b0abee h1 h2 v1 x36 x31 x32)) [1] (by decide) rfl
            have hKc := hK.sub (tys' := []) [] rfl
            have hFc := va_free (wc := (wd_09b0abee h1 h2 v1 x36 x31 x32)) hD hS hA [1] rfl
            refine va_callv (va_runV (As := []) (rest := []) ⟨hx, hb, hml, hown, hts⟩ (k_X10_step l dC dI h1 h2 v1 x36 x31 x32 ⟨by first | omega | decide, by first | omega | decide⟩ H.size) (cwV 0 hts g_X3_readUnit_3 rfl rfl rfl (by decide +kernel) ⟨Nat.le_of_ble_eq_true rfl, Nat.le_of_ble_eq_true rfl⟩) ⟨fun a U g mk q => by obtain ⟨q0, q1, qP, qK, qD⟩ := q; exact ⟨q0, q1, qP, va_K.moved (u := U) (U := U.calling g mk a) (Vm.Alike.refl U.vm) qK, qD⟩, va_recv hKc hPc (ci := 10) (q0 := 0) rfl rfl, fun U hU hW => ⟨rfl, by rw [hU], by rw [hU]; exact hPc, va_K.moved hW.alike hKc, hDc.weaken (fun _ _ _ _ => trivial)⟩⟩ rfl rfl hl.1 rfl (lv_room (Nat.le_of_ble_eq_true rfl)) dX3_readUnit_146 ⟨Nat.le_of_ble_eq_true rfl, Nat.le_of_ble_eq_true rfl⟩) hS (fun q _ h => hFc q h) hFc (fun u t H1 locs ht hvm hwra39 hB hz1 hk1 hS => ?_)
            obtain ⟨x40, hP1, hK1, hD1⟩ := hB
            rw [ht] at hP1
            obtain ⟨hP, hD⟩ := va_join (wr := (wd_6b0d8e05 h0 h1 h3 x29 h2 g0 f5 h3 g1 fn33)) (w1 := (wd_09b0abee h1 h2 v1 x40 x31 x32)) hP hD [1] [0, 2, 3] rfl rfl (by decide) (by decide) hk1 hFc hP1 hD1
            generalize H1 = H at hP hS ⊢
            have hP := hP.sub (ws' := (wd_1ad0248d h0 h1 h3 x29 h1 h2 v1 x40 x31 x32 h2 g0 f5 h3 g1 fn33)) [0, 3, 1, 2] rfl
            have hD := hD.sub (ws' := (wd_1ad0248d h0 h1 h3 x29 h1 h2 v1 x40 x31 x32 h2 g0 f5 h3 g1 fn33)) [0, 3, 1, 2] (by decide) rfl
            have hP : va_P (dC, dI) vwCl (wd_1ad0248d h0 h1 h3 x29 h1 h2 v1 x40 x31 x32 h2 g0 f5 h3 g1 fn33) H := hP
            have hD : va_D A (wd_1ad0248d h0 h1 h3 x29 h1 h2 v1 x40 x31 x32 h2 g0 f5 h3 g1 fn33) := hD
            refine lv_aload_n hx hb dX3_readUnit_149 rfl (lv_at hl 2 rfl) ?_
            refine lv_iload_n hx hb dX3_readUnit_150 rfl (lv_at hl 3 rfl) ?_
            have hPc := hP.sub (ws' := (wd_1ad0248d h0 h1 h3 x29 h1 h2 v1 x40 x31 x32 h2 g0 f5 h3 g1 fn33)) [0, 1, 2, 3] rfl
            have hDc := hD.sub (ws' := (wd_1ad0248d h0 h1 h3 x29 h1 h2 v1 x40 x31 x32 h2 g0 f5 h3 g1 fn33)) [0, 1, 2, 3] (by decide) rfl
            have hKc := hK.sub (tys' := [(g0, .int), (g1, .int)]) [0, 1] rfl
            have hFc := va_free (wc := (wd_1ad0248d h0 h1 h3 x29 h1 h2 v1 x40 x31 x32 h2 g0 f5 h3 g1 fn33)) hD hS hA [0, 1, 2, 3] rfl
            refine va_calli (va_runV (As := [.int 6]) (rest := []) ⟨hx, hb, hml, hown, hts⟩ (k_X3_readSum l dC dI adK adV h0 h1 h2 h3 x29 v1 x40 x31 x32 g0 f5 g1 fn33 ⟨by first | omega | decide, by first | omega | decide⟩ ⟨by first | omega | decide, by first | omega | decide⟩ H.size) (cwV 1 hts g_X3_readUnit_4 rfl rfl rfl (by decide +kernel) ⟨Nat.le_of_ble_eq_true rfl, Nat.le_of_ble_eq_true rfl⟩) ⟨fun a U g mk q => by obtain ⟨q0, q1, qP, qK, qD, n0, n1, n2⟩ := q; exact ⟨q0, q1, qP, va_K.moved (u := U) (U := U.calling g mk a) (Vm.Alike.refl U.vm) qK, qD, vk_R.same rfl n0, va_Z.moved (Vm.Alike.refl _) n1, vk_S.moved (Vm.Alike.refl _) n2⟩, va_recv hKc hPc (ci := 3) (q0 := 0) rfl rfl, fun U hU hW => ⟨rfl, by rw [hU], by rw [hU]; exact hPc, va_K.moved hW.alike hKc, hDc.weaken (fun _ _ _ _ => trivial), vk_R.warm hW h_vr_2, (by rw [hU]; exact (va_Z.moved hW.alike (va_Z.kept h_st_CS hS.2.1)).narrow hFc), (by rw [hU]; exact (vk_S.moved hW.alike (vk_S.kept h_st_S hS.2.1)).narrow hFc)⟩⟩ rfl rfl hl.1 rfl (lv_room (Nat.le_of_ble_eq_true rfl)) dX3_readUnit_151 ⟨Nat.le_of_ble_eq_true rfl, Nat.le_of_ble_eq_true rfl⟩) hS (fun q _ h => hFc q h) hFc (fun ra41 u t H1 locs ht hvm hwra41 hB hz1 hk1 hS => ?_)
            obtain ⟨x42, x43, x44, x45, fn46, oa_x42, ob_x42, hP1, hK1, hD1⟩ := hB
            rw [ht] at hP1
            obtain ⟨hP, hD⟩ := va_join (wr := []) (w1 := (wd_1ad0248d h0 h1 h3 x42 h1 h2 v1 x43 x44 x45 h2 g0 f5 h3 g1 fn46)) hP hD [0, 1, 2, 3] [] rfl rfl (by decide) (by decide) hk1 hFc hP1 hD1
            generalize H1 = H at hP hS ⊢
            have hP : va_P (dC, dI) vwCl (wd_1ad0248d h0 h1 h3 x42 h1 h2 v1 x43 x44 x45 h2 g0 f5 h3 g1 fn46) H := hP
            have hD : va_D A (wd_1ad0248d h0 h1 h3 x42 h1 h2 v1 x43 x44 x45 h2 g0 f5 h3 g1 fn46) := hD
            obtain ⟨wa_ra41, wb_ra41⟩ := hwra41
            have wa_ra41 : 0 ≤ ra41.toInt := wa_ra41
            have wb_ra41 : ra41.toInt ≤ 1 := wb_ra41
            refine lv_if_ne (tgt := 159) hx hb dX3_readUnit_154 (by decide) (fun c47 => ?_) (fun c47 => ?_)
            · skip
              have fc47 : ¬ (ra41.toInt = 0) := fun h9 => c47 (Int32.toInt_inj.mp h9)
              refine lv_aload_n hx hb dX3_readUnit_159 rfl (lv_at hl 2 rfl) ?_
              refine lv_iload hx hb dX3_readUnit_160 (lv_at hl 0 rfl) ?_
              refine lv_iconst (v := 0) hx hb dX3_readUnit_162 (by decide) ?_
              have hPc := hP.sub (ws' := (wd_b958b9da h0 h1 h3 x42 h3 g1 fn46)) [0, 3] rfl
              have hDc := hD.sub (ws' := (wd_b958b9da h0 h1 h3 x42 h3 g1 fn46)) [0, 3] (by decide) rfl
              have hKc := hK.sub (tys' := [(g1, .int)]) [1] rfl
              have hFc := va_free (wc := (wd_b958b9da h0 h1 h3 x42 h3 g1 fn46)) hD hS hA [0, 3] rfl
              refine va_callv (va_runV (As := [.int ra37, .int 0]) (rest := []) ⟨hx, hb, hml, hown, hts⟩ (k_X3_write l dC dI h0 h3 h1 x42 g1 fn46 ra37 0 ⟨by first | omega | decide, by first | omega | decide⟩ H.size) (cwV 2 hts g_X3_readUnit_5 rfl rfl rfl (by decide +kernel) ⟨Nat.le_of_ble_eq_true rfl, Nat.le_of_ble_eq_true rfl⟩) ⟨fun a U g mk q => by obtain ⟨q0, q1, qP, qK, qD⟩ := q; exact ⟨q0, q1, qP, va_K.moved (u := U) (U := U.calling g mk a) (Vm.Alike.refl U.vm) qK, qD⟩, va_recv hKc hPc (ci := 3) (q0 := 0) rfl rfl, fun U hU hW => ⟨rfl, by rw [hU], by rw [hU]; exact hPc, va_K.moved hW.alike hKc, hDc.weaken (fun _ _ _ _ => trivial)⟩⟩ rfl rfl hl.1 rfl (lv_room (Nat.le_of_ble_eq_true rfl)) dX3_readUnit_163 ⟨Nat.le_of_ble_eq_true rfl, Nat.le_of_ble_eq_true rfl⟩) hS (fun q _ h => hFc q h) hFc (fun u t H1 locs ht hvm hwra48 hB hz1 hk1 hS => ?_)
              obtain ⟨x49, fn50, oa_x49, ob_x49, hP1, hK1, hD1⟩ := hB
              rw [ht] at hP1
              obtain ⟨hP, hD⟩ := va_join (wr := (wd_82cdd16b h1 h2 v1 x43 x44 x45 h2 g0 f5)) (w1 := (wd_b958b9da h0 h1 h3 x49 h3 g1 fn50)) hP hD [0, 3] [1, 2] rfl rfl (by decide) (by decide) hk1 hFc hP1 hD1
              generalize H1 = H at hP hS ⊢
              have hP := hP.sub (ws' := (wd_1ad0248d h0 h1 h3 x49 h1 h2 v1 x43 x44 x45 h2 g0 f5 h3 g1 fn50)) [2, 0, 1, 3] rfl
              have hD := hD.sub (ws' := (wd_1ad0248d h0 h1 h3 x49 h1 h2 v1 x43 x44 x45 h2 g0 f5 h3 g1 fn50)) [2, 0, 1, 3] (by decide) rfl
              have hP : va_P (dC, dI) vwCl (wd_1ad0248d h0 h1 h3 x49 h1 h2 v1 x43 x44 x45 h2 g0 f5 h3 g1 fn50) H := hP
              have hD : va_D A (wd_1ad0248d h0 h1 h3 x49 h1 h2 v1 x43 x44 x45 h2 g0 f5 h3 g1 fn50) := hD
              refine lv_iconst (v := 1) hx hb dX3_readUnit_166 (by decide) ?_
              subst hQ
              have hP9 := hP.sub (ws' := (wd_1ad0248d h0 h1 h3 x49 h1 h2 v1 x43 x44 x45 h2 g0 f5 h3 g1 fn50)) [0, 1, 2, 3] rfl
              have hD9 := hD.sub (ws' := (wd_1ad0248d h0 h1 h3 x49 h1 h2 v1 x43 x44 x45 h2 g0 f5 h3 g1 fn50)) [0, 1, 2, 3] (by decide) rfl
              have hK9 := hK.sub (tys' := []) [] rfl
              exact W.zret (v := 1) hx hb hr rfl (fun t ht hW => ⟨⟨1, (), rfl, ⟨by first | omega | decide, by first | omega | decide⟩, x49, x43, x44, x45, fn50, by first | omega | decide, by first | omega | decide, by rw [ht]; exact hP9, va_K.moved hW.alike hK9, hD9⟩, hS.F ht⟩) hS.2.2 dX3_readUnit_167
            · skip
              have fc47 : ra41.toInt = 0 := congrArg Int32.toInt c47
              refine lv_iconst (v := 0) hx hb dX3_readUnit_157 (by decide) ?_
              subst hQ
              have hP9 := hP.sub (ws' := (wd_1ad0248d h0 h1 h3 x42 h1 h2 v1 x43 x44 x45 h2 g0 f5 h3 g1 fn46)) [0, 1, 2, 3] rfl
              have hD9 := hD.sub (ws' := (wd_1ad0248d h0 h1 h3 x42 h1 h2 v1 x43 x44 x45 h2 g0 f5 h3 g1 fn46)) [0, 1, 2, 3] (by decide) rfl
              have hK9 := hK.sub (tys' := []) [] rfl
              exact W.zret (v := 0) hx hb hr rfl (fun t ht hW => ⟨⟨0, (), rfl, ⟨by first | omega | decide, by first | omega | decide⟩, x42, x43, x44, x45, fn46, by first | omega | decide, by first | omega | decide, by rw [ht]; exact hP9, va_K.moved hW.alike hK9, hD9⟩, hS.F ht⟩) hS.2.2 dX3_readUnit_158
          · skip
            have fc38 : ra37.toInt = (-1) := congrArg Int32.toInt c38
            refine lv_aload_n hx hb dX3_readUnit_134 rfl (lv_at hl 2 rfl) ?_
            refine va_get (D := (dC, dI)) (ci := 3) (v := .ref h1) (C := RX3) (T := TX3) (N := 3) hx hb hts (fun _ h => List.mem_cons_of_mem _ (List.mem_append_left _ (List.mem_append_right _ h))) hown hK hP 0 rfl rfl 0 (by decide) (hts (.fieldLink RX3 19 "LeftArguments$LawReader" "tape" "LLeftArguments$Tape;") (List.mem_cons_of_mem _ (List.mem_append_left _ (List.mem_append_left _ (List.mem_of_getElem? (i := 0) rfl))))) (fun _ h9 => h9) rfl dX3_readUnit_135 ?_
            have hPc := hP.sub (ws' := (wd_09b0abee h1 h2 v1 x36 x31 x32)) [1] rfl
            have hDc := hD.sub (ws' := (wd_09b0abee h1 h2 v1 x36 x31 x32)) [1] (by decide) rfl
            have hKc := hK.sub (tys' := []) [] rfl
            have hFc := va_free (wc := (wd_09b0abee h1 h2 v1 x36 x31 x32)) hD hS hA [1] rfl
            refine va_calli (va_runV (As := []) (rest := []) ⟨hx, hb, hml, hown, hts⟩ (k_X10_wrongHere l dC dI h1 h2 v1 x36 x31 x32 ⟨by first | omega | decide, by first | omega | decide⟩ H.size) (cwV 0 hts g_X3_readUnit_6 rfl rfl rfl (by decide +kernel) ⟨Nat.le_of_ble_eq_true rfl, Nat.le_of_ble_eq_true rfl⟩) ⟨fun a U g mk q => by obtain ⟨q0, q1, qP, qK, qD⟩ := q; exact ⟨q0, q1, qP, va_K.moved (u := U) (U := U.calling g mk a) (Vm.Alike.refl U.vm) qK, qD⟩, va_recv hKc hPc (ci := 10) (q0 := 0) rfl rfl, fun U hU hW => ⟨rfl, by rw [hU], by rw [hU]; exact hPc, va_K.moved hW.alike hKc, hDc.weaken (fun _ _ _ _ => trivial)⟩⟩ rfl rfl hl.1 rfl (lv_room (Nat.le_of_ble_eq_true rfl)) dX3_readUnit_138 ⟨Nat.le_of_ble_eq_true rfl, Nat.le_of_ble_eq_true rfl⟩) hS (fun q _ h => hFc q h) hFc (fun ra51 u t H1 locs ht hvm hwra51 hB hz1 hk1 hS => ?_)
            obtain ⟨x52, hP1, hK1, hD1⟩ := hB
            rw [ht] at hP1
            obtain ⟨hP, hD⟩ := va_join (wr := (wd_6b0d8e05 h0 h1 h3 x29 h2 g0 f5 h3 g1 fn33)) (w1 := (wd_09b0abee h1 h2 v1 x36 x52 x32)) hP hD [1] [0, 2, 3] rfl rfl (by decide) (by decide) hk1 hFc hP1 hD1
            generalize H1 = H at hP hS ⊢
            have hP := hP.sub (ws' := (wd_1ad0248d h0 h1 h3 x29 h1 h2 v1 x36 x52 x32 h2 g0 f5 h3 g1 fn33)) [0, 3, 1, 2] rfl
            have hD := hD.sub (ws' := (wd_1ad0248d h0 h1 h3 x29 h1 h2 v1 x36 x52 x32 h2 g0 f5 h3 g1 fn33)) [0, 3, 1, 2] (by decide) rfl
            have hP : va_P (dC, dI) vwCl (wd_1ad0248d h0 h1 h3 x29 h1 h2 v1 x36 x52 x32 h2 g0 f5 h3 g1 fn33) H := hP
            have hD : va_D A (wd_1ad0248d h0 h1 h3 x29 h1 h2 v1 x36 x52 x32 h2 g0 f5 h3 g1 fn33) := hD
            obtain ⟨wa_ra51, wb_ra51⟩ := hwra51
            have wa_ra51 : 0 ≤ ra51.toInt := wa_ra51
            have wb_ra51 : ra51.toInt ≤ 0 := wb_ra51
            subst hQ
            have hP9 := hP.sub (ws' := (wd_1ad0248d h0 h1 h3 x29 h1 h2 v1 x36 x52 x32 h2 g0 f5 h3 g1 fn33)) [0, 1, 2, 3] rfl
            have hD9 := hD.sub (ws' := (wd_1ad0248d h0 h1 h3 x29 h1 h2 v1 x36 x52 x32 h2 g0 f5 h3 g1 fn33)) [0, 1, 2, 3] (by decide) rfl
            have hK9 := hK.sub (tys' := []) [] rfl
            exact W.zret (v := ra51) hx hb hr (pv_nz (by omega) (by omega)) (fun t ht hW => ⟨⟨ra51, (), rfl, ⟨by first | omega | decide, by first | omega | decide⟩, x29, x36, x52, x32, fn33, by first | omega | decide, by first | omega | decide, by rw [ht]; exact hP9, va_K.moved hW.alike hK9, hD9⟩, hS.F ht⟩) hS.2.2 dX3_readUnit_141
        · skip
          have fc34 : ra28.toInt = 0 := congrArg Int32.toInt c34
          refine lv_iconst (v := 0) hx hb dX3_readUnit_114 (by decide) ?_
          subst hQ
          have hP9 := hP.sub (ws' := (wd_1ad0248d h0 h1 h3 x29 h1 h2 v1 x30 x31 x32 h2 g0 f5 h3 g1 fn33)) [0, 1, 2, 3] rfl
          have hD9 := hD.sub (ws' := (wd_1ad0248d h0 h1 h3 x29 h1 h2 v1 x30 x31 x32 h2 g0 f5 h3 g1 fn33)) [0, 1, 2, 3] (by decide) rfl
          have hK9 := hK.sub (tys' := []) [] rfl
          exact W.zret (v := 0) hx hb hr rfl (fun t ht hW => ⟨⟨0, (), rfl, ⟨by first | omega | decide, by first | omega | decide⟩, x29, x30, x31, x32, fn33, by first | omega | decide, by first | omega | decide, by rw [ht]; exact hP9, va_K.moved hW.alike hK9, hD9⟩, hS.F ht⟩) hS.2.2 dX3_readUnit_115
      · skip
        have fc26 : ra1.toInt = 40 := congrArg Int32.toInt c26
        refine lv_iload_n hx hb dX3_readUnit_24 rfl (lv_at hl 2 rfl) ?_
        refine lv_bipush (v := 6) hx hb dX3_readUnit_25 (by decide) ?_
        refine lv_icmp_lt (tgt := 38) hx hb dX3_readUnit_27 (by decide) (fun c => absurd c (by decide)) (fun _ => ?_)
        refine lv_aload_n hx hb dX3_readUnit_30 rfl (lv_at hl 1 rfl) ?_
        refine va_get (D := (dC, dI)) (ci := 3) (v := .ref h1) (C := RX3) (T := TX3) (N := 3) hx hb hts (fun _ h => List.mem_cons_of_mem _ (List.mem_append_left _ (List.mem_append_right _ h))) hown hK hP 0 rfl rfl 0 (by decide) (hts (.fieldLink RX3 19 "LeftArguments$LawReader" "tape" "LLeftArguments$Tape;") (List.mem_cons_of_mem _ (List.mem_append_left _ (List.mem_append_left _ (List.mem_of_getElem? (i := 0) rfl))))) (fun _ h9 => h9) rfl dX3_readUnit_31 ?_
        have hPc := hP.sub (ws' := (wd_09b0abee h1 h2 v1 x2 v3 v4)) [1] rfl
        have hDc := hD.sub (ws' := (wd_09b0abee h1 h2 v1 x2 v3 v4)) [1] (by decide) rfl
        have hKc := hK.sub (tys' := []) [] rfl
        have hFc := va_free (wc := (wd_09b0abee h1 h2 v1 x2 v3 v4)) hD hS hA [1] rfl
        refine va_calli (va_runV (As := []) (rest := []) ⟨hx, hb, hml, hown, hts⟩ (k_X10_wrongHere l dC dI h1 h2 v1 x2 v3 v4 ⟨by first | omega | decide, by first | omega | decide⟩ H.size) (cwV 0 hts g_X3_readUnit_6 rfl rfl rfl (by decide +kernel) ⟨Nat.le_of_ble_eq_true rfl, Nat.le_of_ble_eq_true rfl⟩) ⟨fun a U g mk q => by obtain ⟨q0, q1, qP, qK, qD⟩ := q; exact ⟨q0, q1, qP, va_K.moved (u := U) (U := U.calling g mk a) (Vm.Alike.refl U.vm) qK, qD⟩, va_recv hKc hPc (ci := 10) (q0 := 0) rfl rfl, fun U hU hW => ⟨rfl, by rw [hU], by rw [hU]; exact hPc, va_K.moved hW.alike hKc, hDc.weaken (fun _ _ _ _ => trivial)⟩⟩ rfl rfl hl.1 rfl (lv_room (Nat.le_of_ble_eq_true rfl)) dX3_readUnit_34 ⟨Nat.le_of_ble_eq_true rfl, Nat.le_of_ble_eq_true rfl⟩) hS (fun q _ h => hFc q h) hFc (fun ra53 u t H1 locs ht hvm hwra53 hB hz1 hk1 hS => ?_)
        obtain ⟨x54, hP1, hK1, hD1⟩ := hB
        rw [ht] at hP1
        obtain ⟨hP, hD⟩ := va_join (wr := (wd_6b0d8e05 h0 h1 h3 v0 h2 g0 f5 h3 g1 f6)) (w1 := (wd_09b0abee h1 h2 v1 x2 x54 v4)) hP hD [1] [0, 2, 3] rfl rfl (by decide) (by decide) hk1 hFc hP1 hD1
        generalize H1 = H at hP hS ⊢
        have hP := hP.sub (ws' := (wd_1ad0248d h0 h1 h3 v0 h1 h2 v1 x2 x54 v4 h2 g0 f5 h3 g1 f6)) [0, 3, 1, 2] rfl
        have hD := hD.sub (ws' := (wd_1ad0248d h0 h1 h3 v0 h1 h2 v1 x2 x54 v4 h2 g0 f5 h3 g1 f6)) [0, 3, 1, 2] (by decide) rfl
        have hP : va_P (dC, dI) vwCl (wd_1ad0248d h0 h1 h3 v0 h1 h2 v1 x2 x54 v4 h2 g0 f5 h3 g1 f6) H := hP
        have hD : va_D A (wd_1ad0248d h0 h1 h3 v0 h1 h2 v1 x2 x54 v4 h2 g0 f5 h3 g1 f6) := hD
        obtain ⟨wa_ra53, wb_ra53⟩ := hwra53
        have wa_ra53 : 0 ≤ ra53.toInt := wa_ra53
        have wb_ra53 : ra53.toInt ≤ 0 := wb_ra53
        subst hQ
        have hP9 := hP.sub (ws' := (wd_1ad0248d h0 h1 h3 v0 h1 h2 v1 x2 x54 v4 h2 g0 f5 h3 g1 f6)) [0, 1, 2, 3] rfl
        have hD9 := hD.sub (ws' := (wd_1ad0248d h0 h1 h3 v0 h1 h2 v1 x2 x54 v4 h2 g0 f5 h3 g1 f6)) [0, 1, 2, 3] (by decide) rfl
        have hK9 := hK.sub (tys' := []) [] rfl
        exact W.zret (v := ra53) hx hb hr (pv_nz (by omega) (by omega)) (fun t ht hW => ⟨⟨ra53, (), rfl, ⟨by first | omega | decide, by first | omega | decide⟩, v0, x2, x54, v4, f6, by first | omega | decide, by first | omega | decide, by rw [ht]; exact hP9, va_K.moved hW.alike hK9, hD9⟩, hS.F ht⟩) hS.2.2 dX3_readUnit_37
def q_X3_readTruth : List Cond := .code yX3_readTruth cX3_readTruth 4 (some .boolean) :: (([.code yX3_readUnit cX3_readUnit 5 (some .boolean), .fieldLink RX3 19 "LeftArguments$LawReader" "tape" "LLeftArguments$Tape;", .code yX10_next cX10_next 1 (some .int), .fieldLink RX10 19 "LeftArguments$Tape" "at" "I", .fieldLink RX10 15 "LeftArguments$Tape" "used" "I", .fieldLink RX10 9 "LeftArguments$Tape" "bytes" "[I", .initialized RX10, .instanceMethod yX10_next, .selects RX10 yX10_next yX10_next, .methodLink RX3 48 yX10_next, .code yX3_comparing cX3_comparing 1 (some .int), .initialized RX3, .static yX3_comparing, .methodLink RX3 62 yX3_comparing, .code yX10_step cX10_step 1 none, .instanceMethod yX10_step, .selects RX10 yX10_step yX10_step, .methodLink RX3 77 yX10_step, .code yX3_readSum cX3_readSum 4 (some .boolean), .code yX3_readTerm cX3_readTerm 4 (some .boolean), .code yX3_readAtom cX3_readAtom 4 (some .boolean), .code yX10_isDigit cX10_isDigit 1 (some .boolean), .static yX10_isDigit, .methodLink RX3 92 yX10_isDigit, .code yX3_write cX3_write 3 none, .fieldLink RX3 15 "LeftArguments$LawReader" "used" "I", .fieldLink RX3 11 "LeftArguments$LawReader" "code" "[I", .instanceMethod yX3_write, .selects RX3 yX3_write yX3_write, .methodLink RX3 66 yX3_write, .code yX10_wrongHere cX10_wrongHere 1 (some .boolean), .fieldLink RX10 22 "LeftArguments$Tape" "wrongAt" "I", .instanceMethod yX10_wrongHere, .selects RX10 yX10_wrongHere yX10_wrongHere, .methodLink RX3 83 yX10_wrongHere, .code yJ0_indexOf_0f7a4 cJ0_indexOf_0f7a4 2 (some .int), .code yJ0_indexOf_7cf53 cJ0_indexOf_7cf53 3 (some .int), .code yJ0_isLatin1_aae02 cJ0_isLatin1_aae02 1 (some .boolean), .fieldLink RJ0 38 "java/lang/String" "COMPACT_STRINGS" "Z", .fieldLink RJ0 15 "java/lang/String" "coder" "B", .initialized RJ0, .instanceMethod yJ0_isLatin1_aae02, .selects RJ0 yJ0_isLatin1_aae02 yJ0_isLatin1_aae02, .methodLink RJ0 492 yJ0_isLatin1_aae02, .fieldLink RJ0 9 "java/lang/String" "value" "[B", .code yJ0_length_8abf5 cJ0_length_8abf5 1 (some .int), .code yJ0_coder_7d493 cJ0_coder_7d493 1 (some .byte), .instanceMethod yJ0_coder_7d493, .selects RJ0 yJ0_coder_7d493 yJ0_coder_7d493, .methodLink RJ0 335 yJ0_coder_7d493, .instanceMethod yJ0_length_8abf5, .selects RJ0 yJ0_length_8abf5 yJ0_length_8abf5, .methodLink RJ0 505 yJ0_length_8abf5, .code yJ1_indexOf_4cfef cJ1_indexOf_4cfef 4 (some .int), .code yJ1_canEncode_9a6ad cJ1_canEncode_9a6ad 1 (some .boolean), .initialized RJ1, .static yJ1_canEncode_9a6ad, .methodLink RJ1 88 yJ1_canEncode_9a6ad, .methodLink RJ1 92 Lib.Math.max.name, .static Lib.Math.max.name, .initialized "java/lang/Math", .code Lib.Math.max.name Lib.Math.max.code 2 (some .int), .methodLink RJ1 38 Lib.Math.min.name, .static Lib.Math.min.name, .code Lib.Math.min.name Lib.Math.min.code 2 (some .int), .code yJ1_indexOfChar_4cfef cJ1_indexOfChar_4cfef 6 (some .int), .static yJ1_indexOfChar_4cfef, .methodLink RJ1 95 yJ1_indexOfChar_4cfef, .static yJ1_indexOf_4cfef, .methodLink RJ0 637 yJ1_indexOf_4cfef, .instanceMethod yJ0_indexOf_7cf53, .selects RJ0 yJ0_indexOf_7cf53 yJ0_indexOf_7cf53, .methodLink RJ0 633 yJ0_indexOf_7cf53, .instanceMethod yJ0_indexOf_0f7a4, .selects RJ0 yJ0_indexOf_0f7a4 yJ0_indexOf_0f7a4, .methodLink RX3 103 yJ0_indexOf_0f7a4, .code yX10_takeNumber cX10_takeNumber 3 (some .boolean), .methodLink RX10 37 yX10_next, .methodLink RX10 45 yX10_isDigit, .fieldLink RX10 25 "LeftArguments$Tape" "number" "I", .code yX10_sign cX10_sign 1 (some .int), .instanceMethod yX10_sign, .selects RX10 yX10_sign yX10_sign, .methodLink RX10 49 yX10_sign, .methodLink RX10 41 yX10_wrongHere, .instanceMethod yX10_takeNumber, .selects RX10 yX10_takeNumber yX10_takeNumber, .methodLink RX3 95 yX10_takeNumber, .code yX10_number cX10_number 1 (some .int), .instanceMethod yX10_number, .selects RX10 yX10_number yX10_number, .methodLink RX3 98 yX10_number, .instanceMethod yX3_readAtom, .selects RX3 yX3_readAtom yX3_readAtom, .methodLink RX3 89 yX3_readAtom, .instanceMethod yX3_readTerm, .selects RX3 yX3_readTerm yX3_readTerm, .methodLink RX3 86 yX3_readTerm, .instanceMethod yX3_readSum, .selects RX3 yX3_readSum yX3_readSum, .methodLink RX3 59 yX3_readSum, .instanceMethod yX3_readUnit, .selects RX3 yX3_readUnit yX3_readUnit, .methodLink RX3 80 yX3_readUnit] : List Cond) ++ wsX30 ++ wsX100)
set_option maxRecDepth 20000 in
theorem g_X3_readTruth_0 : GoodIn q_X3_readTruth (wsV RX3 80 RX3 yX3_readUnit q_X3_readUnit) := goodIn_app (goodIn_r _ [104, 102, 103, 12] rfl (by decide +kernel)) (goodIn_ca (goodIn_ca (goodIn_r (.code yX3_readUnit cX3_readUnit 5 (some .boolean) :: [.fieldLink RX3 19 "LeftArguments$LawReader" "tape" "LLeftArguments$Tape;", .code yX10_next cX10_next 1 (some .int), .fieldLink RX10 19 "LeftArguments$Tape" "at" "I", .fieldLink RX10 15 "LeftArguments$Tape" "used" "I", .fieldLink RX10 9 "LeftArguments$Tape" "bytes" "[I", .initialized RX10, .instanceMethod yX10_next, .selects RX10 yX10_next yX10_next, .methodLink RX3 48 yX10_next, .code yX3_comparing cX3_comparing 1 (some .int), .initialized RX3, .static yX3_comparing, .methodLink RX3 62 yX3_comparing, .code yX10_step cX10_step 1 none, .instanceMethod yX10_step, .selects RX10 yX10_step yX10_step, .methodLink RX3 77 yX10_step, .code yX3_readSum cX3_readSum 4 (some .boolean), .code yX3_readTerm cX3_readTerm 4 (some .boolean), .code yX3_readAtom cX3_readAtom 4 (some .boolean), .code yX10_isDigit cX10_isDigit 1 (some .boolean), .static yX10_isDigit, .methodLink RX3 92 yX10_isDigit, .code yX3_write cX3_write 3 none, .fieldLink RX3 15 "LeftArguments$LawReader" "used" "I", .fieldLink RX3 11 "LeftArguments$LawReader" "code" "[I", .instanceMethod yX3_write, .selects RX3 yX3_write yX3_write, .methodLink RX3 66 yX3_write, .code yX10_wrongHere cX10_wrongHere 1 (some .boolean), .fieldLink RX10 22 "LeftArguments$Tape" "wrongAt" "I", .instanceMethod yX10_wrongHere, .selects RX10 yX10_wrongHere yX10_wrongHere, .methodLink RX3 83 yX10_wrongHere, .code yJ0_indexOf_0f7a4 cJ0_indexOf_0f7a4 2 (some .int), .code yJ0_indexOf_7cf53 cJ0_indexOf_7cf53 3 (some .int), .code yJ0_isLatin1_aae02 cJ0_isLatin1_aae02 1 (some .boolean), .fieldLink RJ0 38 "java/lang/String" "COMPACT_STRINGS" "Z", .fieldLink RJ0 15 "java/lang/String" "coder" "B", .initialized RJ0, .instanceMethod yJ0_isLatin1_aae02, .selects RJ0 yJ0_isLatin1_aae02 yJ0_isLatin1_aae02, .methodLink RJ0 492 yJ0_isLatin1_aae02, .fieldLink RJ0 9 "java/lang/String" "value" "[B", .code yJ0_length_8abf5 cJ0_length_8abf5 1 (some .int), .code yJ0_coder_7d493 cJ0_coder_7d493 1 (some .byte), .instanceMethod yJ0_coder_7d493, .selects RJ0 yJ0_coder_7d493 yJ0_coder_7d493, .methodLink RJ0 335 yJ0_coder_7d493, .instanceMethod yJ0_length_8abf5, .selects RJ0 yJ0_length_8abf5 yJ0_length_8abf5, .methodLink RJ0 505 yJ0_length_8abf5, .code yJ1_indexOf_4cfef cJ1_indexOf_4cfef 4 (some .int), .code yJ1_canEncode_9a6ad cJ1_canEncode_9a6ad 1 (some .boolean), .initialized RJ1, .static yJ1_canEncode_9a6ad, .methodLink RJ1 88 yJ1_canEncode_9a6ad, .methodLink RJ1 92 Lib.Math.max.name, .static Lib.Math.max.name, .initialized "java/lang/Math", .code Lib.Math.max.name Lib.Math.max.code 2 (some .int), .methodLink RJ1 38 Lib.Math.min.name, .static Lib.Math.min.name, .code Lib.Math.min.name Lib.Math.min.code 2 (some .int), .code yJ1_indexOfChar_4cfef cJ1_indexOfChar_4cfef 6 (some .int), .static yJ1_indexOfChar_4cfef, .methodLink RJ1 95 yJ1_indexOfChar_4cfef, .static yJ1_indexOf_4cfef, .methodLink RJ0 637 yJ1_indexOf_4cfef, .instanceMethod yJ0_indexOf_7cf53, .selects RJ0 yJ0_indexOf_7cf53 yJ0_indexOf_7cf53, .methodLink RJ0 633 yJ0_indexOf_7cf53, .instanceMethod yJ0_indexOf_0f7a4, .selects RJ0 yJ0_indexOf_0f7a4 yJ0_indexOf_0f7a4, .methodLink RX3 103 yJ0_indexOf_0f7a4, .code yX10_takeNumber cX10_takeNumber 3 (some .boolean), .methodLink RX10 37 yX10_next, .methodLink RX10 45 yX10_isDigit, .fieldLink RX10 25 "LeftArguments$Tape" "number" "I", .code yX10_sign cX10_sign 1 (some .int), .instanceMethod yX10_sign, .selects RX10 yX10_sign yX10_sign, .methodLink RX10 49 yX10_sign, .methodLink RX10 41 yX10_wrongHere, .instanceMethod yX10_takeNumber, .selects RX10 yX10_takeNumber yX10_takeNumber, .methodLink RX3 95 yX10_takeNumber, .code yX10_number cX10_number 1 (some .int), .instanceMethod yX10_number, .selects RX10 yX10_number yX10_number, .methodLink RX3 98 yX10_number, .instanceMethod yX3_readAtom, .selects RX3 yX3_readAtom yX3_readAtom, .methodLink RX3 89 yX3_readAtom, .instanceMethod yX3_readTerm, .selects RX3 yX3_readTerm yX3_readTerm, .methodLink RX3 86 yX3_readTerm, .instanceMethod yX3_readSum, .selects RX3 yX3_readSum yX3_readSum, .methodLink RX3 59 yX3_readSum]) [1, 2, 3, 4, 5, 6, 7, 8, 9, 10, 11, 12, 13, 14, 15, 16, 17, 18, 19, 20, 21, 22, 23, 24, 25, 26, 27, 28, 29, 30, 31, 32, 33, 34, 35, 36, 37, 38, 39, 40, 41, 42, 43, 44, 45, 46, 47, 48, 49, 50, 51, 52, 53, 54, 55, 56, 57, 58, 59, 60, 61, 62, 63, 64, 65, 66, 67, 68, 69, 70, 71, 72, 73, 74, 75, 76, 77, 78, 79, 80, 81, 82, 83, 84, 85, 86, 87, 88, 89, 90, 91, 92, 93, 94, 95, 96, 97, 98, 99, 100, 101] rfl (by decide +kernel)) (goodIn_sub (fun _ h => List.mem_cons_of_mem _ (List.mem_append_left _ (List.mem_append_right _ h))) gwX3)) (goodIn_sub (fun _ h => List.mem_cons_of_mem _ (List.mem_append_right _ h)) gwX10))
set_option maxRecDepth 20000 in
theorem g_X3_readTruth_1 : GoodIn q_X3_readTruth (wsV RX3 48 RX10 yX10_next q_X10_next) := goodIn_app (goodIn_r _ [10, 8, 9, 7] rfl (by decide +kernel)) (goodIn_ca (goodIn_r (.code yX10_next cX10_next 1 (some .int) :: [.fieldLink RX10 19 "LeftArguments$Tape" "at" "I", .fieldLink RX10 15 "LeftArguments$Tape" "used" "I", .fieldLink RX10 9 "LeftArguments$Tape" "bytes" "[I"]) [3, 4, 5, 6] rfl (by decide +kernel)) (goodIn_sub (fun _ h => List.mem_cons_of_mem _ (List.mem_append_right _ h)) gwX10))
set_option maxRecDepth 20000 in
theorem g_X3_readTruth_2 : GoodIn q_X3_readTruth (wsV RX3 77 RX10 yX10_step q_X10_step) := goodIn_app (goodIn_r _ [18, 16, 17, 7] rfl (by decide +kernel)) (goodIn_ca (goodIn_r (.code yX10_step cX10_step 1 none :: [.fieldLink RX10 19 "LeftArguments$Tape" "at" "I"]) [15, 4] rfl (by decide +kernel)) (goodIn_sub (fun _ h => List.mem_cons_of_mem _ (List.mem_append_right _ h)) gwX10))
set_option maxRecDepth 20000 in
theorem g_X3_readTruth_4 : GoodIn q_X3_readTruth (wsV RX3 66 RX3 yX3_write q_X3_write) := goodIn_app (goodIn_r _ [30, 28, 29, 12] rfl (by decide +kernel)) (goodIn_ca (goodIn_r (.code yX3_write cX3_write 3 none :: [.fieldLink RX3 15 "LeftArguments$LawReader" "used" "I", .fieldLink RX3 11 "LeftArguments$LawReader" "code" "[I"]) [25, 26, 27] rfl (by decide +kernel)) (goodIn_sub (fun _ h => List.mem_cons_of_mem _ (List.mem_append_left _ (List.mem_append_right _ h))) gwX3))
set_option maxHeartbeats 4000000 in
set_option maxRecDepth 100000 in
theorem k_X3_readTruth (l : Launch) (dC : Nat → ClassId) (dI : Nat → Nat → Nat) (adK : Nat → Nat) (adV : Nat → Nat) (h0 : Nat) (h1 : Nat) (h2 : Nat) (h3 : Nat) (v0 : Int32) (v1 : Int32) (v2 : Int32) (v3 : Int32) (v4 : Int32) (g0 : ClassId) (f5 : Nat → Int32) (g1 : ClassId) (f6 : Nat → Int32) (v7 : Int32) (i_v0 : 0 ≤ v0.toInt ∧ v0.toInt ≤ 256) (i_v1 : 0 ≤ v1.toInt ∧ v1.toInt ≤ 240) (i_v7 : 0 ≤ v7.toInt ∧ v7.toInt ≤ 1) (sz : Nat) : Met l yX3_readTruth q_X3_readTruth ({ frames := 8, cells := 0, slots := 0, locals := 184 }) (va_Pc [.ref h0, .int 6, .int v7] (fun U => U.heap.size = sz ∧ va_P (dC, dI) vwCl (wd_1ad0248d h0 h1 h3 v0 h1 h2 v1 v2 v3 v4 h2 g0 f5 h3 g1 f6) U.heap ∧ va_K (dC, dI) vwCl [(g0, .int), (g1, .int)] U ∧ va_D (fun _ => True) (wd_1ad0248d h0 h1 h3 v0 h1 h2 v1 v2 v3 v4 h2 g0 f5 h3 g1 f6) ∧ vk_R RX3 101 "zaondt" (adK 2) U ∧ va_Z "java/lang/String" "COMPACT_STRINGS" "Z" (.int 1) (va_A (wd_1ad0248d h0 h1 h3 v0 h1 h2 v1 v2 v3 v4 h2 g0 f5 h3 g1 f6) sz) U U.heap ∧ vk_S 3 pv_len3 pv_byt3 adK adV (va_A (wd_1ad0248d h0 h1 h3 v0 h1 h2 v1 v2 v3 v4 h2 g0 f5 h3 g1 f6) sz) U U.heap)) (va_Qi (fun (r : Int32) (_ : Unit) => 0 ≤ r.toInt ∧ r.toInt ≤ 1) (fun (_ : Unit) (t : State) => ∃ (o_h0_2 : Int32) (o_h1_2 : Int32) (o_h1_3 : Int32) (o_h1_4 : Int32) (o_h3 : Nat → Int32), 0 ≤ o_h0_2.toInt ∧ o_h0_2.toInt ≤ 256 ∧ va_P (dC, dI) vwCl (wd_1ad0248d h0 h1 h3 o_h0_2 h1 h2 v1 o_h1_2 o_h1_3 o_h1_4 h2 g0 f5 h3 g1 o_h3) t.heap ∧ va_K (dC, dI) vwCl [] t ∧ va_D (va_A (wd_1ad0248d h0 h1 h3 v0 h1 h2 v1 v2 v3 v4 h2 g0 f5 h3 g1 f6) sz) (wd_1ad0248d h0 h1 h3 o_h0_2 h1 h2 v1 o_h1_2 o_h1_3 o_h1_4 h2 g0 f5 h3 g1 o_h3)) (va_A (wd_1ad0248d h0 h1 h3 v0 h1 h2 v1 v2 v3 v4 h2 g0 f5 h3 g1 f6) sz)) 0 0 (va_A (wd_1ad0248d h0 h1 h3 v0 h1 h2 v1 v2 v3 v4 h2 g0 f5 h3 g1 f6) sz) := by
  refine Met.ofW (cc := cX3_readTruth) (maxL := 4) (ret := (some .boolean)) (by decide) rfl ?_
  intro p e s m args below meth c s₁ B hml hv
  obtain ⟨i_v0a, i_v0b⟩ := i_v0
  obtain ⟨i_v1a, i_v1b⟩ := i_v1
  obtain ⟨i_v7a, i_v7b⟩ := i_v7
  obtain ⟨rfl, hsz, hP, hK, hD0, h_vr_2, h_st_CS, h_st_S⟩ := hv
  have hx := B.exec
  have hb := B.bytes
  have hr := B.returns
  have hts := atoms_spec (ws := q_X3_readTruth) B.pre
  have hown : s.vm.findClass RX3 = some m.cls := findClass_of_methodNamed B.named
  have hlocks := B.notSynchronized
  subst hsz
  have hD := hD0.self (sz := s.heap.size)
  generalize hAe : va_A (wd_1ad0248d h0 h1 h3 v0 h1 h2 v1 v2 v3 v4 h2 g0 f5 h3 g1 f6) s.heap.size = A at hD h_st_CS h_st_S ⊢
  have hA : ∀ q : Nat, s.heap.size ≤ q → A q := fun q h => by rw [← hAe]; exact Or.inr h
  have hS : va_S A s.heap s.heap [] := va_S.rf
  generalize hQ : (MQ below _ _ s 0 0 A) = Q
  have hl := lv_entry ([.ref h0, .int 6, .int v7]) (n := 4) (Nat.le_of_ble_eq_true rfl)
  rw [lg_entry_eq]
  generalize (lg_sl ([.ref h0, .int 6, .int v7]) ++ List.replicate (4 - (lg_sl ([.ref h0, .int 6, .int v7])).length) Slot.unset).toArray = ls at hl ⊢
  have hl : lv_has ls 4 [(0, .ref h0), (1, .int 6), (2, .int v7)] := hl
  obtain ⟨H, hH⟩ : ∃ H : Heap, H = s.heap := ⟨_, rfl⟩
  obtain ⟨locs, hlocs⟩ : ∃ y : List Loc, y = [] := ⟨_, rfl⟩
  have hS : va_S A s.heap H locs := by rw [hH, hlocs]; exact va_S.rf
  have hP : va_P (dC, dI) vwCl (wd_1ad0248d h0 h1 h3 v0 h1 h2 v1 v2 v3 v4 h2 g0 f5 h3 g1 f6) H := by rw [hH]; exact hP
  rw [← hH, ← hlocs]
  refine lv_aload_n hx hb dX3_readTruth_0 rfl (lv_at hl 0 rfl) ?_
  refine lv_iload_n hx hb dX3_readTruth_1 rfl (lv_at hl 1 rfl) ?_
  refine lv_iload_n hx hb dX3_readTruth_2 rfl (lv_at hl 2 rfl) ?_
  have hPc := hP.sub (ws' := (wd_1ad0248d h0 h1 h3 v0 h1 h2 v1 v2 v3 v4 h2 g0 f5 h3 g1 f6)) [0, 1, 2, 3] rfl
  have hDc := hD.sub (ws' := (wd_1ad0248d h0 h1 h3 v0 h1 h2 v1 v2 v3 v4 h2 g0 f5 h3 g1 f6)) [0, 1, 2, 3] (by decide) rfl
  have hKc := hK.sub (tys' := [(g0, .int), (g1, .int)]) [0, 1] rfl
  have hFc := va_free (wc := (wd_1ad0248d h0 h1 h3 v0 h1 h2 v1 v2 v3 v4 h2 g0 f5 h3 g1 f6)) hD hS hA [0, 1, 2, 3] rfl
  refine va_calli (va_runV (As := [.int 6, .int v7]) (rest := []) ⟨hx, hb, hml, hown, hts⟩ (k_X3_readUnit l dC dI adK adV h0 h1 h2 h3 v0 v1 v2 v3 v4 g0 f5 g1 f6 v7 ⟨by first | omega | decide, by first | omega | decide⟩ ⟨by first | omega | decide, by first | omega | decide⟩ ⟨by first | omega | decide, by first | omega | decide⟩ H.size) (cwV 2 hts g_X3_readTruth_0 rfl rfl rfl (by decide +kernel) ⟨Nat.le_of_ble_eq_true rfl, Nat.le_of_ble_eq_true rfl⟩) ⟨fun a U g mk q => by obtain ⟨q0, q1, qP, qK, qD, n0, n1, n2⟩ := q; exact ⟨q0, q1, qP, va_K.moved (u := U) (U := U.calling g mk a) (Vm.Alike.refl U.vm) qK, qD, vk_R.same rfl n0, va_Z.moved (Vm.Alike.refl _) n1, vk_S.moved (Vm.Alike.refl _) n2⟩, va_recv hKc hPc (ci := 3) (q0 := 0) rfl rfl, fun U hU hW => ⟨rfl, by rw [hU], by rw [hU]; exact hPc, va_K.moved hW.alike hKc, hDc.weaken (fun _ _ _ _ => trivial), vk_R.warm hW h_vr_2, (by rw [hU]; exact (va_Z.moved hW.alike (va_Z.kept h_st_CS hS.2.1)).narrow hFc), (by rw [hU]; exact (vk_S.moved hW.alike (vk_S.kept h_st_S hS.2.1)).narrow hFc)⟩⟩ rfl rfl hl.1 rfl (lv_room (Nat.le_of_ble_eq_true rfl)) dX3_readTruth_3 ⟨Nat.le_of_ble_eq_true rfl, Nat.le_of_ble_eq_true rfl⟩) hS (fun q _ h => hFc q h) hFc (fun ra1 u t H1 locs ht hvm hwra1 hB hz1 hk1 hS => ?_)
  obtain ⟨x2, x3, x4, x5, fn6, oa_x2, ob_x2, hP1, hK1, hD1⟩ := hB
  rw [ht] at hP1
  obtain ⟨hP, hD⟩ := va_join (wr := []) (w1 := (wd_1ad0248d h0 h1 h3 x2 h1 h2 v1 x3 x4 x5 h2 g0 f5 h3 g1 fn6)) hP hD [0, 1, 2, 3] [] rfl rfl (by decide) (by decide) hk1 hFc hP1 hD1
  generalize H1 = H at hP hS ⊢
  have hP : va_P (dC, dI) vwCl (wd_1ad0248d h0 h1 h3 x2 h1 h2 v1 x3 x4 x5 h2 g0 f5 h3 g1 fn6) H := hP
  have hD : va_D A (wd_1ad0248d h0 h1 h3 x2 h1 h2 v1 x3 x4 x5 h2 g0 f5 h3 g1 fn6) := hD
  obtain ⟨wa_ra1, wb_ra1⟩ := hwra1
  have wa_ra1 : 0 ≤ ra1.toInt := wa_ra1
  have wb_ra1 : ra1.toInt ≤ 1 := wb_ra1
  refine lv_if_ne (tgt := 11) hx hb dX3_readTruth_6 (by decide) (fun c7 => ?_) (fun c7 => ?_)
  · skip
    have fc7 : ¬ (ra1.toInt = 0) := fun h9 => c7 (Int32.toInt_inj.mp h9)
    refine lv_iconst (v := 0) hx hb dX3_readTruth_11 (by decide) ?_
    refine lv_istore_n (lv' := [(3, .int 0), (0, .ref h0), (1, .int 6), (2, .int v7)]) hx hb dX3_readTruth_12 rfl hl (by decide) rfl (fun ls hl => ?_)
    have hL98 : ∀ (n9 : Nat), ∀ (x86 : Int32) (x87 : Int32) (x88 : Int32) (x89 : Int32) (x90 : Int32) (fn91 : Nat → Int32) (H : Heap) (locs : List Loc) (ls : Array Slot), 0 ≤ x86.toInt → x86.toInt ≤ 240 → 0 ≤ x87.toInt → x87.toInt ≤ 256 → (240 - x86.toInt).toNat < n9 → va_P (dC, dI) vwCl (wd_1ad0248d h0 h1 h3 x87 h1 h2 v1 x88 x89 x90 h2 g0 f5 h3 g1 fn91) H → va_D A (wd_1ad0248d h0 h1 h3 x87 h1 h2 v1 x88 x89 x90 h2 g0 f5 h3 g1 fn91) → va_S A s.heap H locs → lv_has ls 4 [(3, .int x86), (0, .ref h0), (1, .int 6), (2, .int v7)] → W p l e ({ frames := 8, cells := 0, slots := 0, locals := 184 }) s m ([.ref h0, .int 6, .int v7] : List Value).toArray below meth c H locs 0 0 Q (F0 m 13 ls []) := by
      intro n9
      induction n9 with
      | zero => intro x86 x87 x88 x89 x90 fn91 H locs ls qa_x86 qb_x86 qa_x87 qb_x87 hm9 hP hD hS hl; exact absurd hm9 (Nat.not_lt_zero _)
      | succ n9 ih_hL98 =>
        intro x86 x87 x88 x89 x90 fn91 H locs ls qa_x86 qb_x86 qa_x87 qb_x87 hm9 hP hD hS hl
        refine lv_iload_n hx hb dX3_readTruth_13 rfl (lv_at hl 0 rfl) ?_
        refine lv_sipush (v := 240) hx hb dX3_readTruth_14 (by decide) ?_
        refine lv_icmp_ge (tgt := 63) hx hb dX3_readTruth_17 (by decide) (fun c99 => ?_) (fun c99 => ?_)
        · skip
          have fc99 : 240 ≤ x86.toInt := Int32.le_iff_toInt_le.mp c99
          refine lv_iconst (v := 1) hx hb dX3_readTruth_63 (by decide) ?_
          subst hQ
          have hP9 := hP.sub (ws' := (wd_1ad0248d h0 h1 h3 x87 h1 h2 v1 x88 x89 x90 h2 g0 f5 h3 g1 fn91)) [0, 1, 2, 3] rfl
          have hD9 := hD.sub (ws' := (wd_1ad0248d h0 h1 h3 x87 h1 h2 v1 x88 x89 x90 h2 g0 f5 h3 g1 fn91)) [0, 1, 2, 3] (by decide) rfl
          have hK9 := hK.sub (tys' := []) [] rfl
          exact W.zret (v := 1) hx hb hr rfl (fun t ht hW => ⟨⟨1, (), rfl, ⟨by first | omega | decide, by first | omega | decide⟩, x87, x88, x89, x90, fn91, by first | omega | decide, by first | omega | decide, by rw [ht]; exact hP9, va_K.moved hW.alike hK9, hD9⟩, hS.F ht⟩) hS.2.2 dX3_readTruth_64
        · skip
          have fc99 : ¬ (240 ≤ x86.toInt) := fun h9 => c99 (Int32.le_iff_toInt_le.mpr h9)
          refine lv_aload_n hx hb dX3_readTruth_20 rfl (lv_at hl 1 rfl) ?_
          refine va_get (D := (dC, dI)) (ci := 3) (v := .ref h1) (C := RX3) (T := TX3) (N := 3) hx hb hts (fun _ h => List.mem_cons_of_mem _ (List.mem_append_left _ (List.mem_append_right _ h))) hown hK hP 0 rfl rfl 0 (by decide) (hts (.fieldLink RX3 19 "LeftArguments$LawReader" "tape" "LLeftArguments$Tape;") (List.mem_cons_of_mem _ (List.mem_append_left _ (List.mem_append_left _ (List.mem_of_getElem? (i := 1) rfl))))) (fun _ h9 => h9) rfl dX3_readTruth_21 ?_
          have hPc := hP.sub (ws' := (wd_82cdd16b h1 h2 v1 x88 x89 x90 h2 g0 f5)) [1, 2] rfl
          have hDc := hD.sub (ws' := (wd_82cdd16b h1 h2 v1 x88 x89 x90 h2 g0 f5)) [1, 2] (by decide) rfl
          have hKc := hK.sub (tys' := [(g0, .int)]) [0] rfl
          have hFc := va_free (wc := (wd_82cdd16b h1 h2 v1 x88 x89 x90 h2 g0 f5)) hD hS hA [1, 2] rfl
          refine va_calli (va_runV (As := []) (rest := []) ⟨hx, hb, hml, hown, hts⟩ (k_X10_next l dC dI h1 h2 v1 x88 x89 x90 g0 f5 ⟨by first | omega | decide, by first | omega | decide⟩ H.size) (cwV 0 hts g_X3_readTruth_1 rfl rfl rfl (by decide +kernel) ⟨Nat.le_of_ble_eq_true rfl, Nat.le_of_ble_eq_true rfl⟩) ⟨fun a U g mk q => by obtain ⟨q0, q1, qP, qK, qD⟩ := q; exact ⟨q0, q1, qP, va_K.moved (u := U) (U := U.calling g mk a) (Vm.Alike.refl U.vm) qK, qD⟩, va_recv hKc hPc (ci := 10) (q0 := 0) rfl rfl, fun U hU hW => ⟨rfl, by rw [hU], by rw [hU]; exact hPc, va_K.moved hW.alike hKc, hDc.weaken (fun _ _ _ _ => trivial)⟩⟩ rfl rfl hl.1 rfl (lv_room (Nat.le_of_ble_eq_true rfl)) dX3_readTruth_24 ⟨Nat.le_of_ble_eq_true rfl, Nat.le_of_ble_eq_true rfl⟩) hS (fun q _ h => hFc q h) hFc (fun ra100 u t H1 locs ht hvm hwra100 hB hz1 hk1 hS => ?_)
          obtain ⟨x101, hP1, hK1, hD1⟩ := hB
          rw [ht] at hP1
          obtain ⟨hP, hD⟩ := va_join (wr := (wd_b958b9da h0 h1 h3 x87 h3 g1 fn91)) (w1 := (wd_82cdd16b h1 h2 v1 x101 x89 x90 h2 g0 f5)) hP hD [1, 2] [0, 3] rfl rfl (by decide) (by decide) hk1 hFc hP1 hD1
          generalize H1 = H at hP hS ⊢
          have hP := hP.sub (ws' := (wd_1ad0248d h0 h1 h3 x87 h1 h2 v1 x101 x89 x90 h2 g0 f5 h3 g1 fn91)) [0, 2, 3, 1] rfl
          have hD := hD.sub (ws' := (wd_1ad0248d h0 h1 h3 x87 h1 h2 v1 x101 x89 x90 h2 g0 f5 h3 g1 fn91)) [0, 2, 3, 1] (by decide) rfl
          have hP : va_P (dC, dI) vwCl (wd_1ad0248d h0 h1 h3 x87 h1 h2 v1 x101 x89 x90 h2 g0 f5 h3 g1 fn91) H := hP
          have hD : va_D A (wd_1ad0248d h0 h1 h3 x87 h1 h2 v1 x101 x89 x90 h2 g0 f5 h3 g1 fn91) := hD
          refine lv_bipush (v := 38) hx hb dX3_readTruth_27 (by decide) ?_
          refine lv_icmp_ne (tgt := 63) hx hb dX3_readTruth_29 (by decide) (fun c102 => ?_) (fun c102 => ?_)
          · skip
            have fc102 : ¬ (ra100.toInt = 38) := fun h9 => c102 (Int32.toInt_inj.mp h9)
            refine lv_iconst (v := 1) hx hb dX3_readTruth_63 (by decide) ?_
            subst hQ
            have hP9 := hP.sub (ws' := (wd_1ad0248d h0 h1 h3 x87 h1 h2 v1 x101 x89 x90 h2 g0 f5 h3 g1 fn91)) [0, 1, 2, 3] rfl
            have hD9 := hD.sub (ws' := (wd_1ad0248d h0 h1 h3 x87 h1 h2 v1 x101 x89 x90 h2 g0 f5 h3 g1 fn91)) [0, 1, 2, 3] (by decide) rfl
            have hK9 := hK.sub (tys' := []) [] rfl
            exact W.zret (v := 1) hx hb hr rfl (fun t ht hW => ⟨⟨1, (), rfl, ⟨by first | omega | decide, by first | omega | decide⟩, x87, x101, x89, x90, fn91, by first | omega | decide, by first | omega | decide, by rw [ht]; exact hP9, va_K.moved hW.alike hK9, hD9⟩, hS.F ht⟩) hS.2.2 dX3_readTruth_64
          · skip
            have fc102 : ra100.toInt = 38 := congrArg Int32.toInt c102
            refine lv_aload_n hx hb dX3_readTruth_32 rfl (lv_at hl 1 rfl) ?_
            refine va_get (D := (dC, dI)) (ci := 3) (v := .ref h1) (C := RX3) (T := TX3) (N := 3) hx hb hts (fun _ h => List.mem_cons_of_mem _ (List.mem_append_left _ (List.mem_append_right _ h))) hown hK hP 0 rfl rfl 0 (by decide) (hts (.fieldLink RX3 19 "LeftArguments$LawReader" "tape" "LLeftArguments$Tape;") (List.mem_cons_of_mem _ (List.mem_append_left _ (List.mem_append_left _ (List.mem_of_getElem? (i := 1) rfl))))) (fun _ h9 => h9) rfl dX3_readTruth_33 ?_
            have hPc := hP.sub (ws' := (wd_09b0abee h1 h2 v1 x101 x89 x90)) [1] rfl
            have hDc := hD.sub (ws' := (wd_09b0abee h1 h2 v1 x101 x89 x90)) [1] (by decide) rfl
            have hKc := hK.sub (tys' := []) [] rfl
            have hFc := va_free (wc := (wd_09b0abee h1 h2 v1 x101 x89 x90)) hD hS hA [1] rfl
            refine va_callv (va_runV (As := []) (rest := []) ⟨hx, hb, hml, hown, hts⟩ (k_X10_step l dC dI h1 h2 v1 x101 x89 x90 ⟨by first | omega | decide, by first | omega | decide⟩ H.size) (cwV 0 hts g_X3_readTruth_2 rfl rfl rfl (by decide +kernel) ⟨Nat.le_of_ble_eq_true rfl, Nat.le_of_ble_eq_true rfl⟩) ⟨fun a U g mk q => by obtain ⟨q0, q1, qP, qK, qD⟩ := q; exact ⟨q0, q1, qP, va_K.moved (u := U) (U := U.calling g mk a) (Vm.Alike.refl U.vm) qK, qD⟩, va_recv hKc hPc (ci := 10) (q0 := 0) rfl rfl, fun U hU hW => ⟨rfl, by rw [hU], by rw [hU]; exact hPc, va_K.moved hW.alike hKc, hDc.weaken (fun _ _ _ _ => trivial)⟩⟩ rfl rfl hl.1 rfl (lv_room (Nat.le_of_ble_eq_true rfl)) dX3_readTruth_36 ⟨Nat.le_of_ble_eq_true rfl, Nat.le_of_ble_eq_true rfl⟩) hS (fun q _ h => hFc q h) hFc (fun u t H1 locs ht hvm hwra103 hB hz1 hk1 hS => ?_)
            obtain ⟨x104, hP1, hK1, hD1⟩ := hB
            rw [ht] at hP1
            obtain ⟨hP, hD⟩ := va_join (wr := (wd_6b0d8e05 h0 h1 h3 x87 h2 g0 f5 h3 g1 fn91)) (w1 := (wd_09b0abee h1 h2 v1 x104 x89 x90)) hP hD [1] [0, 2, 3] rfl rfl (by decide) (by decide) hk1 hFc hP1 hD1
            generalize H1 = H at hP hS ⊢
            have hP := hP.sub (ws' := (wd_1ad0248d h0 h1 h3 x87 h1 h2 v1 x104 x89 x90 h2 g0 f5 h3 g1 fn91)) [0, 3, 1, 2] rfl
            have hD := hD.sub (ws' := (wd_1ad0248d h0 h1 h3 x87 h1 h2 v1 x104 x89 x90 h2 g0 f5 h3 g1 fn91)) [0, 3, 1, 2] (by decide) rfl
            have hP : va_P (dC, dI) vwCl (wd_1ad0248d h0 h1 h3 x87 h1 h2 v1 x104 x89 x90 h2 g0 f5 h3 g1 fn91) H := hP
            have hD : va_D A (wd_1ad0248d h0 h1 h3 x87 h1 h2 v1 x104 x89 x90 h2 g0 f5 h3 g1 fn91) := hD
            refine lv_aload_n hx hb dX3_readTruth_39 rfl (lv_at hl 1 rfl) ?_
            refine lv_iload_n hx hb dX3_readTruth_40 rfl (lv_at hl 2 rfl) ?_
            refine lv_iconst (v := 0) hx hb dX3_readTruth_41 (by decide) ?_
            have hPc := hP.sub (ws' := (wd_1ad0248d h0 h1 h3 x87 h1 h2 v1 x104 x89 x90 h2 g0 f5 h3 g1 fn91)) [0, 1, 2, 3] rfl
            have hDc := hD.sub (ws' := (wd_1ad0248d h0 h1 h3 x87 h1 h2 v1 x104 x89 x90 h2 g0 f5 h3 g1 fn91)) [0, 1, 2, 3] (by decide) rfl
            have hKc := hK.sub (tys' := [(g0, .int), (g1, .int)]) [0, 1] rfl
            have hFc := va_free (wc := (wd_1ad0248d h0 h1 h3 x87 h1 h2 v1 x104 x89 x90 h2 g0 f5 h3 g1 fn91)) hD hS hA [0, 1, 2, 3] rfl
            refine va_calli (va_runV (As := [.int 6, .int 0]) (rest := []) ⟨hx, hb, hml, hown, hts⟩ (k_X3_readUnit l dC dI adK adV h0 h1 h2 h3 x87 v1 x104 x89 x90 g0 f5 g1 fn91 0 ⟨by first | omega | decide, by first | omega | decide⟩ ⟨by first | omega | decide, by first | omega | decide⟩ ⟨by first | omega | decide, by first | omega | decide⟩ H.size) (cwV 2 hts g_X3_readTruth_0 rfl rfl rfl (by decide +kernel) ⟨Nat.le_of_ble_eq_true rfl, Nat.le_of_ble_eq_true rfl⟩) ⟨fun a U g mk q => by obtain ⟨q0, q1, qP, qK, qD, n0, n1, n2⟩ := q; exact ⟨q0, q1, qP, va_K.moved (u := U) (U := U.calling g mk a) (Vm.Alike.refl U.vm) qK, qD, vk_R.same rfl n0, va_Z.moved (Vm.Alike.refl _) n1, vk_S.moved (Vm.Alike.refl _) n2⟩, va_recv hKc hPc (ci := 3) (q0 := 0) rfl rfl, fun U hU hW => ⟨rfl, by rw [hU], by rw [hU]; exact hPc, va_K.moved hW.alike hKc, hDc.weaken (fun _ _ _ _ => trivial), vk_R.warm hW h_vr_2, (by rw [hU]; exact (va_Z.moved hW.alike (va_Z.kept h_st_CS hS.2.1)).narrow hFc), (by rw [hU]; exact (vk_S.moved hW.alike (vk_S.kept h_st_S hS.2.1)).narrow hFc)⟩⟩ rfl rfl hl.1 rfl (lv_room (Nat.le_of_ble_eq_true rfl)) dX3_readTruth_42 ⟨Nat.le_of_ble_eq_true rfl, Nat.le_of_ble_eq_true rfl⟩) hS (fun q _ h => hFc q h) hFc (fun ra105 u t H1 locs ht hvm hwra105 hB hz1 hk1 hS => ?_)
            obtain ⟨x106, x107, x108, x109, fn110, oa_x106, ob_x106, hP1, hK1, hD1⟩ := hB
            rw [ht] at hP1
            obtain ⟨hP, hD⟩ := va_join (wr := []) (w1 := (wd_1ad0248d h0 h1 h3 x106 h1 h2 v1 x107 x108 x109 h2 g0 f5 h3 g1 fn110)) hP hD [0, 1, 2, 3] [] rfl rfl (by decide) (by decide) hk1 hFc hP1 hD1
            generalize H1 = H at hP hS ⊢
            have hP : va_P (dC, dI) vwCl (wd_1ad0248d h0 h1 h3 x106 h1 h2 v1 x107 x108 x109 h2 g0 f5 h3 g1 fn110) H := hP
            have hD : va_D A (wd_1ad0248d h0 h1 h3 x106 h1 h2 v1 x107 x108 x109 h2 g0 f5 h3 g1 fn110) := hD
            obtain ⟨wa_ra105, wb_ra105⟩ := hwra105
            have wa_ra105 : 0 ≤ ra105.toInt := wa_ra105
            have wb_ra105 : ra105.toInt ≤ 1 := wb_ra105
            refine lv_if_ne (tgt := 50) hx hb dX3_readTruth_45 (by decide) (fun c111 => ?_) (fun c111 => ?_)
            · skip
              have fc111 : ¬ (ra105.toInt = 0) := fun h9 => c111 (Int32.toInt_inj.mp h9)
              refine lv_aload_n hx hb dX3_readTruth_50 rfl (lv_at hl 1 rfl) ?_
              refine lv_bipush (v := 10) hx hb dX3_readTruth_51 (by decide) ?_
              refine lv_iconst (v := 0) hx hb dX3_readTruth_53 (by decide) ?_
              have hPc := hP.sub (ws' := (wd_b958b9da h0 h1 h3 x106 h3 g1 fn110)) [0, 3] rfl
              have hDc := hD.sub (ws' := (wd_b958b9da h0 h1 h3 x106 h3 g1 fn110)) [0, 3] (by decide) rfl
              have hKc := hK.sub (tys' := [(g1, .int)]) [1] rfl
              have hFc := va_free (wc := (wd_b958b9da h0 h1 h3 x106 h3 g1 fn110)) hD hS hA [0, 3] rfl
              refine va_callv (va_runV (As := [.int 10, .int 0]) (rest := []) ⟨hx, hb, hml, hown, hts⟩ (k_X3_write l dC dI h0 h3 h1 x106 g1 fn110 10 0 ⟨by first | omega | decide, by first | omega | decide⟩ H.size) (cwV 2 hts g_X3_readTruth_4 rfl rfl rfl (by decide +kernel) ⟨Nat.le_of_ble_eq_true rfl, Nat.le_of_ble_eq_true rfl⟩) ⟨fun a U g mk q => by obtain ⟨q0, q1, qP, qK, qD⟩ := q; exact ⟨q0, q1, qP, va_K.moved (u := U) (U := U.calling g mk a) (Vm.Alike.refl U.vm) qK, qD⟩, va_recv hKc hPc (ci := 3) (q0 := 0) rfl rfl, fun U hU hW => ⟨rfl, by rw [hU], by rw [hU]; exact hPc, va_K.moved hW.alike hKc, hDc.weaken (fun _ _ _ _ => trivial)⟩⟩ rfl rfl hl.1 rfl (lv_room (Nat.le_of_ble_eq_true rfl)) dX3_readTruth_54 ⟨Nat.le_of_ble_eq_true rfl, Nat.le_of_ble_eq_true rfl⟩) hS (fun q _ h => hFc q h) hFc (fun u t H1 locs ht hvm hwra112 hB hz1 hk1 hS => ?_)
              obtain ⟨x113, fn114, oa_x113, ob_x113, hP1, hK1, hD1⟩ := hB
              rw [ht] at hP1
              obtain ⟨hP, hD⟩ := va_join (wr := (wd_82cdd16b h1 h2 v1 x107 x108 x109 h2 g0 f5)) (w1 := (wd_b958b9da h0 h1 h3 x113 h3 g1 fn114)) hP hD [0, 3] [1, 2] rfl rfl (by decide) (by decide) hk1 hFc hP1 hD1
              generalize H1 = H at hP hS ⊢
              have hP := hP.sub (ws' := (wd_1ad0248d h0 h1 h3 x113 h1 h2 v1 x107 x108 x109 h2 g0 f5 h3 g1 fn114)) [2, 0, 1, 3] rfl
              have hD := hD.sub (ws' := (wd_1ad0248d h0 h1 h3 x113 h1 h2 v1 x107 x108 x109 h2 g0 f5 h3 g1 fn114)) [2, 0, 1, 3] (by decide) rfl
              have hP : va_P (dC, dI) vwCl (wd_1ad0248d h0 h1 h3 x113 h1 h2 v1 x107 x108 x109 h2 g0 f5 h3 g1 fn114) H := hP
              have hD : va_D A (wd_1ad0248d h0 h1 h3 x113 h1 h2 v1 x107 x108 x109 h2 g0 f5 h3 g1 fn114) := hD
              obtain ⟨t115, et115⟩ : ∃ y : Int32, y = x86 + 1 := ⟨_, rfl⟩
              have gt115 : t115.toInt = x86.toInt + (1) := pv_add (a := x86.toInt) (b := (1)) et115 rfl (by decide) (by omega) (by omega)
              refine lv_iinc (v := t115) (lv' := [(3, .int t115), (0, .ref h0), (1, .int 6), (2, .int v7)]) hx hb dX3_readTruth_57 hl (k := 0) rfl (by rw [et115]; rfl) (by decide) rfl (fun ls hl => ?_)
              refine lv_goto (tgt := 13) hx hb dX3_readTruth_60 (by decide) ?_
              exact ih_hL98 t115 x113 x107 x108 x109 fn114 H locs ls (by first | omega | decide) (by first | omega | decide) (by first | omega | decide) (by first | omega | decide) (by first | omega | (simp only [Int.toNat] at *; omega)) hP hD hS (lv_sub hl [0, 1, 2, 3] rfl)
            · skip
              have fc111 : ra105.toInt = 0 := congrArg Int32.toInt c111
              refine lv_iconst (v := 0) hx hb dX3_readTruth_48 (by decide) ?_
              subst hQ
              have hP9 := hP.sub (ws' := (wd_1ad0248d h0 h1 h3 x106 h1 h2 v1 x107 x108 x109 h2 g0 f5 h3 g1 fn110)) [0, 1, 2, 3] rfl
              have hD9 := hD.sub (ws' := (wd_1ad0248d h0 h1 h3 x106 h1 h2 v1 x107 x108 x109 h2 g0 f5 h3 g1 fn110)) [0, 1, 2, 3] (by decide) rfl
              have hK9 := hK.sub (tys' := []) [] rfl
              exact W.zret (v := 0) hx hb hr rfl (fun t ht hW => ⟨⟨0, (), rfl, ⟨by first | omega | decide, by first | omega | decide⟩, x106, x107, x108, x109, fn110, by first | omega | decide, by first | omega | decide, by rw [ht]; exact hP9, va_K.moved hW.alike hK9, hD9⟩, hS.F ht⟩) hS.2.2 dX3_readTruth_49
    exact hL98 _ 0 x2 x3 x4 x5 fn6 H locs ls (by first | omega | decide) (by first | omega | decide) (by first | omega | decide) (by first | omega | decide) (Nat.lt_succ_self _) hP hD hS (lv_sub hl [0, 1, 2, 3] rfl)
  · skip
    have fc7 : ra1.toInt = 0 := congrArg Int32.toInt c7
    refine lv_iconst (v := 0) hx hb dX3_readTruth_9 (by decide) ?_
    subst hQ
    have hP9 := hP.sub (ws' := (wd_1ad0248d h0 h1 h3 x2 h1 h2 v1 x3 x4 x5 h2 g0 f5 h3 g1 fn6)) [0, 1, 2, 3] rfl
    have hD9 := hD.sub (ws' := (wd_1ad0248d h0 h1 h3 x2 h1 h2 v1 x3 x4 x5 h2 g0 f5 h3 g1 fn6)) [0, 1, 2, 3] (by decide) rfl
    have hK9 := hK.sub (tys' := []) [] rfl
    exact W.zret (v := 0) hx hb hr rfl (fun t ht hW => ⟨⟨0, (), rfl, ⟨by first | omega | decide, by first | omega | decide⟩, x2, x3, x4, x5, fn6, by first | omega | decide, by first | omega | decide, by rw [ht]; exact hP9, va_K.moved hW.alike hK9, hD9⟩, hS.F ht⟩) hS.2.2 dX3_readTruth_10
def q_X3_readCondition : List Cond := .code yX3_readCondition cX3_readCondition 4 (some .boolean) :: (([.code yX3_readTruth cX3_readTruth 4 (some .boolean), .code yX3_readUnit cX3_readUnit 5 (some .boolean), .fieldLink RX3 19 "LeftArguments$LawReader" "tape" "LLeftArguments$Tape;", .code yX10_next cX10_next 1 (some .int), .fieldLink RX10 19 "LeftArguments$Tape" "at" "I", .fieldLink RX10 15 "LeftArguments$Tape" "used" "I", .fieldLink RX10 9 "LeftArguments$Tape" "bytes" "[I", .initialized RX10, .instanceMethod yX10_next, .selects RX10 yX10_next yX10_next, .methodLink RX3 48 yX10_next, .code yX3_comparing cX3_comparing 1 (some .int), .initialized RX3, .static yX3_comparing, .methodLink RX3 62 yX3_comparing, .code yX10_step cX10_step 1 none, .instanceMethod yX10_step, .selects RX10 yX10_step yX10_step, .methodLink RX3 77 yX10_step, .code yX3_readSum cX3_readSum 4 (some .boolean), .code yX3_readTerm cX3_readTerm 4 (some .boolean), .code yX3_readAtom cX3_readAtom 4 (some .boolean), .code yX10_isDigit cX10_isDigit 1 (some .boolean), .static yX10_isDigit, .methodLink RX3 92 yX10_isDigit, .code yX3_write cX3_write 3 none, .fieldLink RX3 15 "LeftArguments$LawReader" "used" "I", .fieldLink RX3 11 "LeftArguments$LawReader" "code" "[I", .instanceMethod yX3_write, .selects RX3 yX3_write yX3_write, .methodLink RX3 66 yX3_write, .code yX10_wrongHere cX10_wrongHere 1 (some .boolean), .fieldLink RX10 22 "LeftArguments$Tape" "wrongAt" "I", .instanceMethod yX10_wrongHere, .selects RX10 yX10_wrongHere yX10_wrongHere, .methodLink RX3 83 yX10_wrongHere, .code yJ0_indexOf_0f7a4 cJ0_indexOf_0f7a4 2 (some .int), .code yJ0_indexOf_7cf53 cJ0_indexOf_7cf53 3 (some .int), .code yJ0_isLatin1_aae02 cJ0_isLatin1_aae02 1 (some .boolean), .fieldLink RJ0 38 "java/lang/String" "COMPACT_STRINGS" "Z", .fieldLink RJ0 15 "java/lang/String" "coder" "B", .initialized RJ0, .instanceMethod yJ0_isLatin1_aae02, .selects RJ0 yJ0_isLatin1_aae02 yJ0_isLatin1_aae02, .methodLink RJ0 492 yJ0_isLatin1_aae02, .fieldLink RJ0 9 "java/lang/String" "value" "[B", .code yJ0_length_8abf5 cJ0_length_8abf5 1 (some .int), .code yJ0_coder_7d493 cJ0_coder_7d493 1 (some .byte), .instanceMethod yJ0_coder_7d493, .selects RJ0 yJ0_coder_7d493 yJ0_coder_7d493, .methodLink RJ0 335 yJ0_coder_7d493, .instanceMethod yJ0_length_8abf5, .selects RJ0 yJ0_length_8abf5 yJ0_length_8abf5, .methodLink RJ0 505 yJ0_length_8abf5, .code yJ1_indexOf_4cfef cJ1_indexOf_4cfef 4 (some .int), .code yJ1_canEncode_9a6ad cJ1_canEncode_9a6ad 1 (some .boolean), .initialized RJ1, .static yJ1_canEncode_9a6ad, .methodLink RJ1 88 yJ1_canEncode_9a6ad, .methodLink RJ1 92 Lib.Math.max.name, .static Lib.Math.max.name, .initialized "java/lang/Math", .code Lib.Math.max.name Lib.Math.max.code 2 (some .int), .methodLink RJ1 38 Lib.Math.min.name, .static Lib.Math.min.name, .code Lib.Math.min.name Lib.Math.min.code 2 (some .int), .code yJ1_indexOfChar_4cfef cJ1_indexOfChar_4cfef 6 (some .int), .static yJ1_indexOfChar_4cfef, .methodLink RJ1 95 yJ1_indexOfChar_4cfef, .static yJ1_indexOf_4cfef, .methodLink RJ0 637 yJ1_indexOf_4cfef, .instanceMethod yJ0_indexOf_7cf53, .selects RJ0 yJ0_indexOf_7cf53 yJ0_indexOf_7cf53, .methodLink RJ0 633 yJ0_indexOf_7cf53, .instanceMethod yJ0_indexOf_0f7a4, .selects RJ0 yJ0_indexOf_0f7a4 yJ0_indexOf_0f7a4, .methodLink RX3 103 yJ0_indexOf_0f7a4, .code yX10_takeNumber cX10_takeNumber 3 (some .boolean), .methodLink RX10 37 yX10_next, .methodLink RX10 45 yX10_isDigit, .fieldLink RX10 25 "LeftArguments$Tape" "number" "I", .code yX10_sign cX10_sign 1 (some .int), .instanceMethod yX10_sign, .selects RX10 yX10_sign yX10_sign, .methodLink RX10 49 yX10_sign, .methodLink RX10 41 yX10_wrongHere, .instanceMethod yX10_takeNumber, .selects RX10 yX10_takeNumber yX10_takeNumber, .methodLink RX3 95 yX10_takeNumber, .code yX10_number cX10_number 1 (some .int), .instanceMethod yX10_number, .selects RX10 yX10_number yX10_number, .methodLink RX3 98 yX10_number, .instanceMethod yX3_readAtom, .selects RX3 yX3_readAtom yX3_readAtom, .methodLink RX3 89 yX3_readAtom, .instanceMethod yX3_readTerm, .selects RX3 yX3_readTerm yX3_readTerm, .methodLink RX3 86 yX3_readTerm, .instanceMethod yX3_readSum, .selects RX3 yX3_readSum yX3_readSum, .methodLink RX3 59 yX3_readSum, .instanceMethod yX3_readUnit, .selects RX3 yX3_readUnit yX3_readUnit, .methodLink RX3 80 yX3_readUnit, .instanceMethod yX3_readTruth, .selects RX3 yX3_readTruth yX3_readTruth, .methodLink RX3 74 yX3_readTruth] : List Cond) ++ wsX30 ++ wsX100)
set_option maxRecDepth 20000 in
theorem g_X3_readCondition_0 : GoodIn q_X3_readCondition (wsV RX3 74 RX3 yX3_readTruth q_X3_readTruth) := goodIn_app (goodIn_r _ [108, 106, 107, 13] rfl (by decide +kernel)) (goodIn_ca (goodIn_ca (goodIn_r (.code yX3_readTruth cX3_readTruth 4 (some .boolean) :: [.code yX3_readUnit cX3_readUnit 5 (some .boolean), .fieldLink RX3 19 "LeftArguments$LawReader" "tape" "LLeftArguments$Tape;", .code yX10_next cX10_next 1 (some .int), .fieldLink RX10 19 "LeftArguments$Tape" "at" "I", .fieldLink RX10 15 "LeftArguments$Tape" "used" "I", .fieldLink RX10 9 "LeftArguments$Tape" "bytes" "[I", .initialized RX10, .instanceMethod yX10_next, .selects RX10 yX10_next yX10_next, .methodLink RX3 48 yX10_next, .code yX3_comparing cX3_comparing 1 (some .int), .initialized RX3, .static yX3_comparing, .methodLink RX3 62 yX3_comparing, .code yX10_step cX10_step 1 none, .instanceMethod yX10_step, .selects RX10 yX10_step yX10_step, .methodLink RX3 77 yX10_step, .code yX3_readSum cX3_readSum 4 (some .boolean), .code yX3_readTerm cX3_readTerm 4 (some .boolean), .code yX3_readAtom cX3_readAtom 4 (some .boolean), .code yX10_isDigit cX10_isDigit 1 (some .boolean), .static yX10_isDigit, .methodLink RX3 92 yX10_isDigit, .code yX3_write cX3_write 3 none, .fieldLink RX3 15 "LeftArguments$LawReader" "used" "I", .fieldLink RX3 11 "LeftArguments$LawReader" "code" "[I", .instanceMethod yX3_write, .selects RX3 yX3_write yX3_write, .methodLink RX3 66 yX3_write, .code yX10_wrongHere cX10_wrongHere 1 (some .boolean), .fieldLink RX10 22 "LeftArguments$Tape" "wrongAt" "I", .instanceMethod yX10_wrongHere, .selects RX10 yX10_wrongHere yX10_wrongHere, .methodLink RX3 83 yX10_wrongHere, .code yJ0_indexOf_0f7a4 cJ0_indexOf_0f7a4 2 (some .int), .code yJ0_indexOf_7cf53 cJ0_indexOf_7cf53 3 (some .int), .code yJ0_isLatin1_aae02 cJ0_isLatin1_aae02 1 (some .boolean), .fieldLink RJ0 38 "java/lang/String" "COMPACT_STRINGS" "Z", .fieldLink RJ0 15 "java/lang/String" "coder" "B", .initialized RJ0, .instanceMethod yJ0_isLatin1_aae02, .selects RJ0 yJ0_isLatin1_aae02 yJ0_isLatin1_aae02, .methodLink RJ0 492 yJ0_isLatin1_aae02, .fieldLink RJ0 9 "java/lang/String" "value" "[B", .code yJ0_length_8abf5 cJ0_length_8abf5 1 (some .int), .code yJ0_coder_7d493 cJ0_coder_7d493 1 (some .byte), .instanceMethod yJ0_coder_7d493, .selects RJ0 yJ0_coder_7d493 yJ0_coder_7d493, .methodLink RJ0 335 yJ0_coder_7d493, .instanceMethod yJ0_length_8abf5, .selects RJ0 yJ0_length_8abf5 yJ0_length_8abf5, .methodLink RJ0 505 yJ0_length_8abf5, .code yJ1_indexOf_4cfef cJ1_indexOf_4cfef 4 (some .int), .code yJ1_canEncode_9a6ad cJ1_canEncode_9a6ad 1 (some .boolean), .initialized RJ1, .static yJ1_canEncode_9a6ad, .methodLink RJ1 88 yJ1_canEncode_9a6ad, .methodLink RJ1 92 Lib.Math.max.name, .static Lib.Math.max.name, .initialized "java/lang/Math", .code Lib.Math.max.name Lib.Math.max.code 2 (some .int), .methodLink RJ1 38 Lib.Math.min.name, .static Lib.Math.min.name, .code Lib.Math.min.name Lib.Math.min.code 2 (some .int), .code yJ1_indexOfChar_4cfef cJ1_indexOfChar_4cfef 6 (some .int), .static yJ1_indexOfChar_4cfef, .methodLink RJ1 95 yJ1_indexOfChar_4cfef, .static yJ1_indexOf_4cfef, .methodLink RJ0 637 yJ1_indexOf_4cfef, .instanceMethod yJ0_indexOf_7cf53, .selects RJ0 yJ0_indexOf_7cf53 yJ0_indexOf_7cf53, .methodLink RJ0 633 yJ0_indexOf_7cf53, .instanceMethod yJ0_indexOf_0f7a4, .selects RJ0 yJ0_indexOf_0f7a4 yJ0_indexOf_0f7a4, .methodLink RX3 103 yJ0_indexOf_0f7a4, .code yX10_takeNumber cX10_takeNumber 3 (some .boolean), .methodLink RX10 37 yX10_next, .methodLink RX10 45 yX10_isDigit, .fieldLink RX10 25 "LeftArguments$Tape" "number" "I", .code yX10_sign cX10_sign 1 (some .int), .instanceMethod yX10_sign, .selects RX10 yX10_sign yX10_sign, .methodLink RX10 49 yX10_sign, .methodLink RX10 41 yX10_wrongHere, .instanceMethod yX10_takeNumber, .selects RX10 yX10_takeNumber yX10_takeNumber, .methodLink RX3 95 yX10_takeNumber, .code yX10_number cX10_number 1 (some .int), .instanceMethod yX10_number, .selects RX10 yX10_number yX10_number, .methodLink RX3 98 yX10_number, .instanceMethod yX3_readAtom, .selects RX3 yX3_readAtom yX3_readAtom, .methodLink RX3 89 yX3_readAtom, .instanceMethod yX3_readTerm, .selects RX3 yX3_readTerm yX3_readTerm, .methodLink RX3 86 yX3_readTerm, .instanceMethod yX3_readSum, .selects RX3 yX3_readSum yX3_readSum, .methodLink RX3 59 yX3_readSum, .instanceMethod yX3_readUnit, .selects RX3 yX3_readUnit yX3_readUnit, .methodLink RX3 80 yX3_readUnit]) [1, 2, 3, 4, 5, 6, 7, 8, 9, 10, 11, 12, 13, 14, 15, 16, 17, 18, 19, 20, 21, 22, 23, 24, 25, 26, 27, 28, 29, 30, 31, 32, 33, 34, 35, 36, 37, 38, 39, 40, 41, 42, 43, 44, 45, 46, 47, 48, 49, 50, 51, 52, 53, 54, 55, 56, 57, 58, 59, 60, 61, 62, 63, 64, 65, 66, 67, 68, 69, 70, 71, 72, 73, 74, 75, 76, 77, 78, 79, 80, 81, 82, 83, 84, 85, 86, 87, 88, 89, 90, 91, 92, 93, 94, 95, 96, 97, 98, 99, 100, 101, 102, 103, 104, 105] rfl (by decide +kernel)) (goodIn_sub (fun _ h => List.mem_cons_of_mem _ (List.mem_append_left _ (List.mem_append_right _ h))) gwX3)) (goodIn_sub (fun _ h => List.mem_cons_of_mem _ (List.mem_append_right _ h)) gwX10))
set_option maxRecDepth 20000 in
theorem g_X3_readCondition_1 : GoodIn q_X3_readCondition (wsV RX3 48 RX10 yX10_next q_X10_next) := goodIn_app (goodIn_r _ [11, 9, 10, 8] rfl (by decide +kernel)) (goodIn_ca (goodIn_r (.code yX10_next cX10_next 1 (some .int) :: [.fieldLink RX10 19 "LeftArguments$Tape" "at" "I", .fieldLink RX10 15 "LeftArguments$Tape" "used" "I", .fieldLink RX10 9 "LeftArguments$Tape" "bytes" "[I"]) [4, 5, 6, 7] rfl (by decide +kernel)) (goodIn_sub (fun _ h => List.mem_cons_of_mem _ (List.mem_append_right _ h)) gwX10))
set_option maxRecDepth 20000 in
theorem g_X3_readCondition_2 : GoodIn q_X3_readCondition (wsV RX3 77 RX10 yX10_step q_X10_step) := goodIn_app (goodIn_r _ [19, 17, 18, 8] rfl (by decide +kernel)) (goodIn_ca (goodIn_r (.code yX10_step cX10_step 1 none :: [.fieldLink RX10 19 "LeftArguments$Tape" "at" "I"]) [16, 5] rfl (by decide +kernel)) (goodIn_sub (fun _ h => List.mem_cons_of_mem _ (List.mem_append_right _ h)) gwX10))
set_option maxRecDepth 20000 in
theorem g_X3_readCondition_4 : GoodIn q_X3_readCondition (wsV RX3 66 RX3 yX3_write q_X3_write) := goodIn_app (goodIn_r _ [31, 29, 30, 13] rfl (by decide +kernel)) (goodIn_ca (goodIn_r (.code yX3_write cX3_write 3 none :: [.fieldLink RX3 15 "LeftArguments$LawReader" "used" "I", .fieldLink RX3 11 "LeftArguments$LawReader" "code" "[I"]) [26, 27, 28] rfl (by decide +kernel)) (goodIn_sub (fun _ h => List.mem_cons_of_mem _ (List.mem_append_left _ (List.mem_append_right _ h))) gwX3))
set_option maxHeartbeats 4000000 in
set_option maxRecDepth 100000 in
theorem k_X3_readCondition (l : Launch) (dC : Nat → ClassId) (dI : Nat → Nat → Nat) (adK : Nat → Nat) (adV : Nat → Nat) (h0 : Nat) (h1 : Nat) (h2 : Nat) (h3 : Nat) (v0 : Int32) (v1 : Int32) (v2 : Int32) (v3 : Int32) (v4 : Int32) (g0 : ClassId) (f5 : Nat → Int32) (g1 : ClassId) (f6 : Nat → Int32) (v7 : Int32) (i_v0 : 0 ≤ v0.toInt ∧ v0.toInt ≤ 256) (i_v1 : 0 ≤ v1.toInt ∧ v1.toInt ≤ 240) (i_v7 : 0 ≤ v7.toInt ∧ v7.toInt ≤ 1) (sz : Nat) : Met l yX3_readCondition q_X3_readCondition ({ frames := 9, cells := 0, slots := 0, locals := 207 }) (va_Pc [.ref h0, .int 6, .int v7] (fun U => U.heap.size = sz ∧ va_P (dC, dI) vwCl (wd_1ad0248d h0 h1 h3 v0 h1 h2 v1 v2 v3 v4 h2 g0 f5 h3 g1 f6) U.heap ∧ va_K (dC, dI) vwCl [(g0, .int), (g1, .int)] U ∧ va_D (fun _ => True) (wd_1ad0248d h0 h1 h3 v0 h1 h2 v1 v2 v3 v4 h2 g0 f5 h3 g1 f6) ∧ vk_R RX3 101 "zaondt" (adK 2) U ∧ va_Z "java/lang/String" "COMPACT_STRINGS" "Z" (.int 1) (va_A (wd_1ad0248d h0 h1 h3 v0 h1 h2 v1 v2 v3 v4 h2 g0 f5 h3 g1 f6) sz) U U.heap ∧ vk_S 3 pv_len3 pv_byt3 adK adV (va_A (wd_1ad0248d h0 h1 h3 v0 h1 h2 v1 v2 v3 v4 h2 g0 f5 h3 g1 f6) sz) U U.heap)) (va_Qi (fun (r : Int32) (_ : Unit) => 0 ≤ r.toInt ∧ r.toInt ≤ 1) (fun (_ : Unit) (t : State) => ∃ (o_h0_2 : Int32) (o_h1_2 : Int32) (o_h1_3 : Int32) (o_h1_4 : Int32) (o_h3 : Nat → Int32), 0 ≤ o_h0_2.toInt ∧ o_h0_2.toInt ≤ 256 ∧ va_P (dC, dI) vwCl (wd_1ad0248d h0 h1 h3 o_h0_2 h1 h2 v1 o_h1_2 o_h1_3 o_h1_4 h2 g0 f5 h3 g1 o_h3) t.heap ∧ va_K (dC, dI) vwCl [] t ∧ va_D (va_A (wd_1ad0248d h0 h1 h3 v0 h1 h2 v1 v2 v3 v4 h2 g0 f5 h3 g1 f6) sz) (wd_1ad0248d h0 h1 h3 o_h0_2 h1 h2 v1 o_h1_2 o_h1_3 o_h1_4 h2 g0 f5 h3 g1 o_h3)) (va_A (wd_1ad0248d h0 h1 h3 v0 h1 h2 v1 v2 v3 v4 h2 g0 f5 h3 g1 f6) sz)) 0 0 (va_A (wd_1ad0248d h0 h1 h3 v0 h1 h2 v1 v2 v3 v4 h2 g0 f5 h3 g1 f6) sz) := by
  refine Met.ofW (cc := cX3_readCondition) (maxL := 4) (ret := (some .boolean)) (by decide) rfl ?_
  intro p e s m args below meth c s₁ B hml hv
  obtain ⟨i_v0a, i_v0b⟩ := i_v0
  obtain ⟨i_v1a, i_v1b⟩ := i_v1
  obtain ⟨i_v7a, i_v7b⟩ := i_v7
  obtain ⟨rfl, hsz, hP, hK, hD0, h_vr_2, h_st_CS, h_st_S⟩ := hv
  have hx := B.exec
  have hb := B.bytes
  have hr := B.returns
  have hts := atoms_spec (ws := q_X3_readCondition) B.pre
  have hown : s.vm.findClass RX3 = some m.cls := findClass_of_methodNamed B.named
  have hlocks := B.notSynchronized
  subst hsz
  have hD := hD0.self (sz := s.heap.size)
  generalize hAe : va_A (wd_1ad0248d h0 h1 h3 v0 h1 h2 v1 v2 v3 v4 h2 g0 f5 h3 g1 f6) s.heap.size = A at hD h_st_CS h_st_S ⊢
  have hA : ∀ q : Nat, s.heap.size ≤ q → A q := fun q h => by rw [← hAe]; exact Or.inr h
  have hS : va_S A s.heap s.heap [] := va_S.rf
  generalize hQ : (MQ below _ _ s 0 0 A) = Q
  have hl := lv_entry ([.ref h0, .int 6, .int v7]) (n := 4) (Nat.le_of_ble_eq_true rfl)
  rw [lg_entry_eq]
  generalize (lg_sl ([.ref h0, .int 6, .int v7]) ++ List.replicate (4 - (lg_sl ([.ref h0, .int 6, .int v7])).length) Slot.unset).toArray = ls at hl ⊢
  have hl : lv_has ls 4 [(0, .ref h0), (1, .int 6), (2, .int v7)] := hl
  obtain ⟨H, hH⟩ : ∃ H : Heap, H = s.heap := ⟨_, rfl⟩
  obtain ⟨locs, hlocs⟩ : ∃ y : List Loc, y = [] := ⟨_, rfl⟩
  have hS : va_S A s.heap H locs := by rw [hH, hlocs]; exact va_S.rf
  have hP : va_P (dC, dI) vwCl (wd_1ad0248d h0 h1 h3 v0 h1 h2 v1 v2 v3 v4 h2 g0 f5 h3 g1 f6) H := by rw [hH]; exact hP
  rw [← hH, ← hlocs]
  refine lv_aload_n hx hb dX3_readCondition_0 rfl (lv_at hl 0 rfl) ?_
  refine lv_iload_n hx hb dX3_readCondition_1 rfl (lv_at hl 1 rfl) ?_
  refine lv_iload_n hx hb dX3_readCondition_2 rfl (lv_at hl 2 rfl) ?_
  have hPc := hP.sub (ws' := (wd_1ad0248d h0 h1 h3 v0 h1 h2 v1 v2 v3 v4 h2 g0 f5 h3 g1 f6)) [0, 1, 2, 3] rfl
  have hDc := hD.sub (ws' := (wd_1ad0248d h0 h1 h3 v0 h1 h2 v1 v2 v3 v4 h2 g0 f5 h3 g1 f6)) [0, 1, 2, 3] (by decide) rfl
  have hKc := hK.sub (tys' := [(g0, .int), (g1, .int)]) [0, 1] rfl
  have hFc := va_free (wc := (wd_1ad0248d h0 h1 h3 v0 h1 h2 v1 v2 v3 v4 h2 g0 f5 h3 g1 f6)) hD hS hA [0, 1, 2, 3] rfl
  refine va_calli (va_runV (As := [.int 6, .int v7]) (rest := []) ⟨hx, hb, hml, hown, hts⟩ (k_X3_readTruth l dC dI adK adV h0 h1 h2 h3 v0 v1 v2 v3 v4 g0 f5 g1 f6 v7 ⟨by first | omega | decide, by first | omega | decide⟩ ⟨by first | omega | decide, by first | omega | decide⟩ ⟨by first | omega | decide, by first | omega | decide⟩ H.size) (cwV 2 hts g_X3_readCondition_0 rfl rfl rfl (by decide +kernel) ⟨Nat.le_of_ble_eq_true rfl, Nat.le_of_ble_eq_true rfl⟩) ⟨fun a U g mk q => by obtain ⟨q0, q1, qP, qK, qD, n0, n1, n2⟩ := q; exact ⟨q0, q1, qP, va_K.moved (u := U) (U := U.calling g mk a) (Vm.Alike.refl U.vm) qK, qD, vk_R.same rfl n0, va_Z.moved (Vm.Alike.refl _) n1, vk_S.moved (Vm.Alike.refl _) n2⟩, va_recv hKc hPc (ci := 3) (q0 := 0) rfl rfl, fun U hU hW => ⟨rfl, by rw [hU], by rw [hU]; exact hPc, va_K.moved hW.alike hKc, hDc.weaken (fun _ _ _ _ => trivial), vk_R.warm hW h_vr_2, (by rw [hU]; exact (va_Z.moved hW.alike (va_Z.kept h_st_CS hS.2.1)).narrow hFc), (by rw [hU]; exact (vk_S.moved hW.alike (vk_S.kept h_st_S hS.2.1)).narrow hFc)⟩⟩ rfl rfl hl.1 rfl (lv_room (Nat.le_of_ble_eq_true rfl)) dX3_readCondition_3 ⟨Nat.le_of_ble_eq_true rfl, Nat.le_of_ble_eq_true rfl⟩) hS (fun q _ h => hFc q h) hFc (fun ra1 u t H1 locs ht hvm hwra1 hB hz1 hk1 hS => ?_)
  obtain ⟨x2, x3, x4, x5, fn6, oa_x2, ob_x2, hP1, hK1, hD1⟩ := hB
  rw [ht] at hP1
  obtain ⟨hP, hD⟩ := va_join (wr := []) (w1 := (wd_1ad0248d h0 h1 h3 x2 h1 h2 v1 x3 x4 x5 h2 g0 f5 h3 g1 fn6)) hP hD [0, 1, 2, 3] [] rfl rfl (by decide) (by decide) hk1 hFc hP1 hD1
  generalize H1 = H at hP hS ⊢
  have hP : va_P (dC, dI) vwCl (wd_1ad0248d h0 h1 h3 x2 h1 h2 v1 x3 x4 x5 h2 g0 f5 h3 g1 fn6) H := hP
  have hD : va_D A (wd_1ad0248d h0 h1 h3 x2 h1 h2 v1 x3 x4 x5 h2 g0 f5 h3 g1 fn6) := hD
  obtain ⟨wa_ra1, wb_ra1⟩ := hwra1
  have wa_ra1 : 0 ≤ ra1.toInt := wa_ra1
  have wb_ra1 : ra1.toInt ≤ 1 := wb_ra1
  refine lv_if_ne (tgt := 11) hx hb dX3_readCondition_6 (by decide) (fun c7 => ?_) (fun c7 => ?_)
  · skip
    have fc7 : ¬ (ra1.toInt = 0) := fun h9 => c7 (Int32.toInt_inj.mp h9)
    refine lv_iconst (v := 0) hx hb dX3_readCondition_11 (by decide) ?_
    refine lv_istore_n (lv' := [(3, .int 0), (0, .ref h0), (1, .int 6), (2, .int v7)]) hx hb dX3_readCondition_12 rfl hl (by decide) rfl (fun ls hl => ?_)
    have hL98 : ∀ (n9 : Nat), ∀ (x86 : Int32) (x87 : Int32) (x88 : Int32) (x89 : Int32) (x90 : Int32) (fn91 : Nat → Int32) (H : Heap) (locs : List Loc) (ls : Array Slot), 0 ≤ x86.toInt → x86.toInt ≤ 240 → 0 ≤ x87.toInt → x87.toInt ≤ 256 → (240 - x86.toInt).toNat < n9 → va_P (dC, dI) vwCl (wd_1ad0248d h0 h1 h3 x87 h1 h2 v1 x88 x89 x90 h2 g0 f5 h3 g1 fn91) H → va_D A (wd_1ad0248d h0 h1 h3 x87 h1 h2 v1 x88 x89 x90 h2 g0 f5 h3 g1 fn91) → va_S A s.heap H locs → lv_has ls 4 [(3, .int x86), (0, .ref h0), (1, .int 6), (2, .int v7)] → W p l e ({ frames := 9, cells := 0, slots := 0, locals := 207 }) s m ([.ref h0, .int 6, .int v7] : List Value).toArray below meth c H locs 0 0 Q (F0 m 13 ls []) := by
      intro n9
      induction n9 with
      | zero => intro x86 x87 x88 x89 x90 fn91 H locs ls qa_x86 qb_x86 qa_x87 qb_x87 hm9 hP hD hS hl; exact absurd hm9 (Nat.not_lt_zero _)
      | succ n9 ih_hL98 =>
        intro x86 x87 x88 x89 x90 fn91 H locs ls qa_x86 qb_x86 qa_x87 qb_x87 hm9 hP hD hS hl
        refine lv_iload_n hx hb dX3_readCondition_13 rfl (lv_at hl 0 rfl) ?_
        refine lv_sipush (v := 240) hx hb dX3_readCondition_14 (by decide) ?_
        refine lv_icmp_ge (tgt := 63) hx hb dX3_readCondition_17 (by decide) (fun c99 => ?_) (fun c99 => ?_)
        · skip
          have fc99 : 240 ≤ x86.toInt := Int32.le_iff_toInt_le.mp c99
          refine lv_iconst (v := 1) hx hb dX3_readCondition_63 (by decide) ?_
          subst hQ
          have hP9 := hP.sub (ws' := (wd_1ad0248d h0 h1 h3 x87 h1 h2 v1 x88 x89 x90 h2 g0 f5 h3 g1 fn91)) [0, 1, 2, 3] rfl
          have hD9 := hD.sub (ws' := (wd_1ad0248d h0 h1 h3 x87 h1 h2 v1 x88 x89 x90 h2 g0 f5 h3 g1 fn91)) [0, 1, 2, 3] (by decide) rfl
          have hK9 := hK.sub (tys' := []) [] rfl
          exact W.zret (v := 1) hx hb hr rfl (fun t ht hW => ⟨⟨1, (), rfl, ⟨by first | omega | decide, by first | omega | decide⟩, x87, x88, x89, x90, fn91, by first | omega | decide, by first | omega | decide, by rw [ht]; exact hP9, va_K.moved hW.alike hK9, hD9⟩, hS.F ht⟩) hS.2.2 dX3_readCondition_64
        · skip
          have fc99 : ¬ (240 ≤ x86.toInt) := fun h9 => c99 (Int32.le_iff_toInt_le.mpr h9)
          refine lv_aload_n hx hb dX3_readCondition_20 rfl (lv_at hl 1 rfl) ?_
          refine va_get (D := (dC, dI)) (ci := 3) (v := .ref h1) (C := RX3) (T := TX3) (N := 3) hx hb hts (fun _ h => List.mem_cons_of_mem _ (List.mem_append_left _ (List.mem_append_right _ h))) hown hK hP 0 rfl rfl 0 (by decide) (hts (.fieldLink RX3 19 "LeftArguments$LawReader" "tape" "LLeftArguments$Tape;") (List.mem_cons_of_mem _ (List.mem_append_left _ (List.mem_append_left _ (List.mem_of_getElem? (i := 2) rfl))))) (fun _ h9 => h9) rfl dX3_readCondition_21 ?_
          have hPc := hP.sub (ws' := (wd_82cdd16b h1 h2 v1 x88 x89 x90 h2 g0 f5)) [1, 2] rfl
          have hDc := hD.sub (ws' := (wd_82cdd16b h1 h2 v1 x88 x89 x90 h2 g0 f5)) [1, 2] (by decide) rfl
          have hKc := hK.sub (tys' := [(g0, .int)]) [0] rfl
          have hFc := va_free (wc := (wd_82cdd16b h1 h2 v1 x88 x89 x90 h2 g0 f5)) hD hS hA [1, 2] rfl
          refine va_calli (va_runV (As := []) (rest := []) ⟨hx, hb, hml, hown, hts⟩ (k_X10_next l dC dI h1 h2 v1 x88 x89 x90 g0 f5 ⟨by first | omega | decide, by first | omega | decide⟩ H.size) (cwV 0 hts g_X3_readCondition_1 rfl rfl rfl (by decide +kernel) ⟨Nat.le_of_ble_eq_true rfl, Nat.le_of_ble_eq_true rfl⟩) ⟨fun a U g mk q => by obtain ⟨q0, q1, qP, qK, qD⟩ := q; exact ⟨q0, q1, qP, va_K.moved (u := U) (U := U.calling g mk a) (Vm.Alike.refl U.vm) qK, qD⟩, va_recv hKc hPc (ci := 10) (q0 := 0) rfl rfl, fun U hU hW => ⟨rfl, by rw [hU], by rw [hU]; exact hPc, va_K.moved hW.alike hKc, hDc.weaken (fun _ _ _ _ => trivial)⟩⟩ rfl rfl hl.1 rfl (lv_room (Nat.le_of_ble_eq_true rfl)) dX3_readCondition_24 ⟨Nat.le_of_ble_eq_true rfl, Nat.le_of_ble_eq_true rfl⟩) hS (fun q _ h => hFc q h) hFc (fun ra100 u t H1 locs ht hvm hwra100 hB hz1 hk1 hS => ?_)
          obtain ⟨x101, hP1, hK1, hD1⟩ := hB
          rw [ht] at hP1
          obtain ⟨hP, hD⟩ := va_join (wr := (wd_b958b9da h0 h1 h3 x87 h3 g1 fn91)) (w1 := (wd_82cdd16b h1 h2 v1 x101 x89 x90 h2 g0 f5)) hP hD [1, 2] [0, 3] rfl rfl (by decide) (by decide) hk1 hFc hP1 hD1
          generalize H1 = H at hP hS ⊢
          have hP := hP.sub (ws' := (wd_1ad0248d h0 h1 h3 x87 h1 h2 v1 x101 x89 x90 h2 g0 f5 h3 g1 fn91)) [0, 2, 3, 1] rfl
          have hD := hD.sub (ws' := (wd_1ad0248d h0 h1 h3 x87 h1 h2 v1 x101 x89 x90 h2 g0 f5 h3 g1 fn91)) [0, 2, 3, 1] (by decide) rfl
          have hP : va_P (dC, dI) vwCl (wd_1ad0248d h0 h1 h3 x87 h1 h2 v1 x101 x89 x90 h2 g0 f5 h3 g1 fn91) H := hP
          have hD : va_D A (wd_1ad0248d h0 h1 h3 x87 h1 h2 v1 x101 x89 x90 h2 g0 f5 h3 g1 fn91) := hD
          refine lv_bipush (v := 124) hx hb dX3_readCondition_27 (by decide) ?_
          refine lv_icmp_ne (tgt := 63) hx hb dX3_readCondition_29 (by decide) (fun c102 => ?_) (fun c102 => ?_)
          · skip
            have fc102 : ¬ (ra100.toInt = 124) := fun h9 => c102 (Int32.toInt_inj.mp h9)
            refine lv_iconst (v := 1) hx hb dX3_readCondition_63 (by decide) ?_
            subst hQ
            have hP9 := hP.sub (ws' := (wd_1ad0248d h0 h1 h3 x87 h1 h2 v1 x101 x89 x90 h2 g0 f5 h3 g1 fn91)) [0, 1, 2, 3] rfl
            have hD9 := hD.sub (ws' := (wd_1ad0248d h0 h1 h3 x87 h1 h2 v1 x101 x89 x90 h2 g0 f5 h3 g1 fn91)) [0, 1, 2, 3] (by decide) rfl
            have hK9 := hK.sub (tys' := []) [] rfl
            exact W.zret (v := 1) hx hb hr rfl (fun t ht hW => ⟨⟨1, (), rfl, ⟨by first | omega | decide, by first | omega | decide⟩, x87, x101, x89, x90, fn91, by first | omega | decide, by first | omega | decide, by rw [ht]; exact hP9, va_K.moved hW.alike hK9, hD9⟩, hS.F ht⟩) hS.2.2 dX3_readCondition_64
          · skip
            have fc102 : ra100.toInt = 124 := congrArg Int32.toInt c102
            refine lv_aload_n hx hb dX3_readCondition_32 rfl (lv_at hl 1 rfl) ?_
            refine va_get (D := (dC, dI)) (ci := 3) (v := .ref h1) (C := RX3) (T := TX3) (N := 3) hx hb hts (fun _ h => List.mem_cons_of_mem _ (List.mem_append_left _ (List.mem_append_right _ h))) hown hK hP 0 rfl rfl 0 (by decide) (hts (.fieldLink RX3 19 "LeftArguments$LawReader" "tape" "LLeftArguments$Tape;") (List.mem_cons_of_mem _ (List.mem_append_left _ (List.mem_append_left _ (List.mem_of_getElem? (i := 2) rfl))))) (fun _ h9 => h9) rfl dX3_readCondition_33 ?_
            have hPc := hP.sub (ws' := (wd_09b0abee h1 h2 v1 x101 x89 x90)) [1] rfl
            have hDc := hD.sub (ws' := (wd_09b0abee h1 h2 v1 x101 x89 x90)) [1] (by decide) rfl
            have hKc := hK.sub (tys' := []) [] rfl
            have hFc := va_free (wc := (wd_09b0abee h1 h2 v1 x101 x89 x90)) hD hS hA [1] rfl
            refine va_callv (va_runV (As := []) (rest := []) ⟨hx, hb, hml, hown, hts⟩ (k_X10_step l dC dI h1 h2 v1 x101 x89 x90 ⟨by first | omega | decide, by first | omega | decide⟩ H.size) (cwV 0 hts g_X3_readCondition_2 rfl rfl rfl (by decide +kernel) ⟨Nat.le_of_ble_eq_true rfl, Nat.le_of_ble_eq_true rfl⟩) ⟨fun a U g mk q => by obtain ⟨q0, q1, qP, qK, qD⟩ := q; exact ⟨q0, q1, qP, va_K.moved (u := U) (U := U.calling g mk a) (Vm.Alike.refl U.vm) qK, qD⟩, va_recv hKc hPc (ci := 10) (q0 := 0) rfl rfl, fun U hU hW => ⟨rfl, by rw [hU], by rw [hU]; exact hPc, va_K.moved hW.alike hKc, hDc.weaken (fun _ _ _ _ => trivial)⟩⟩ rfl rfl hl.1 rfl (lv_room (Nat.le_of_ble_eq_true rfl)) dX3_readCondition_36 ⟨Nat.le_of_ble_eq_true rfl, Nat.le_of_ble_eq_true rfl⟩) hS (fun q _ h => hFc q h) hFc (fun u t H1 locs ht hvm hwra103 hB hz1 hk1 hS => ?_)
            obtain ⟨x104, hP1, hK1, hD1⟩ := hB
            rw [ht] at hP1
            obtain ⟨hP, hD⟩ := va_join (wr := (wd_6b0d8e05 h0 h1 h3 x87 h2 g0 f5 h3 g1 fn91)) (w1 := (wd_09b0abee h1 h2 v1 x104 x89 x90)) hP hD [1] [0, 2, 3] rfl rfl (by decide) (by decide) hk1 hFc hP1 hD1
            generalize H1 = H at hP hS ⊢
            have hP := hP.sub (ws' := (wd_1ad0248d h0 h1 h3 x87 h1 h2 v1 x104 x89 x90 h2 g0 f5 h3 g1 fn91)) [0, 3, 1, 2] rfl
            have hD := hD.sub (ws' := (wd_1ad0248d h0 h1 h3 x87 h1 h2 v1 x104 x89 x90 h2 g0 f5 h3 g1 fn91)) [0, 3, 1, 2] (by decide) rfl
            have hP : va_P (dC, dI) vwCl (wd_1ad0248d h0 h1 h3 x87 h1 h2 v1 x104 x89 x90 h2 g0 f5 h3 g1 fn91) H := hP
            have hD : va_D A (wd_1ad0248d h0 h1 h3 x87 h1 h2 v1 x104 x89 x90 h2 g0 f5 h3 g1 fn91) := hD
            refine lv_aload_n hx hb dX3_readCondition_39 rfl (lv_at hl 1 rfl) ?_
            refine lv_iload_n hx hb dX3_readCondition_40 rfl (lv_at hl 2 rfl) ?_
            refine lv_iconst (v := 0) hx hb dX3_readCondition_41 (by decide) ?_
            have hPc := hP.sub (ws' := (wd_1ad0248d h0 h1 h3 x87 h1 h2 v1 x104 x89 x90 h2 g0 f5 h3 g1 fn91)) [0, 1, 2, 3] rfl
            have hDc := hD.sub (ws' := (wd_1ad0248d h0 h1 h3 x87 h1 h2 v1 x104 x89 x90 h2 g0 f5 h3 g1 fn91)) [0, 1, 2, 3] (by decide) rfl
            have hKc := hK.sub (tys' := [(g0, .int), (g1, .int)]) [0, 1] rfl
            have hFc := va_free (wc := (wd_1ad0248d h0 h1 h3 x87 h1 h2 v1 x104 x89 x90 h2 g0 f5 h3 g1 fn91)) hD hS hA [0, 1, 2, 3] rfl
            refine va_calli (va_runV (As := [.int 6, .int 0]) (rest := []) ⟨hx, hb, hml, hown, hts⟩ (k_X3_readTruth l dC dI adK adV h0 h1 h2 h3 x87 v1 x104 x89 x90 g0 f5 g1 fn91 0 ⟨by first | omega | decide, by first | omega | decide⟩ ⟨by first | omega | decide, by first | omega | decide⟩ ⟨by first | omega | decide, by first | omega | decide⟩ H.size) (cwV 2 hts g_X3_readCondition_0 rfl rfl rfl (by decide +kernel) ⟨Nat.le_of_ble_eq_true rfl, Nat.le_of_ble_eq_true rfl⟩) ⟨fun a U g mk q => by obtain ⟨q0, q1, qP, qK, qD, n0, n1, n2⟩ := q; exact ⟨q0, q1, qP, va_K.moved (u := U) (U := U.calling g mk a) (Vm.Alike.refl U.vm) qK, qD, vk_R.same rfl n0, va_Z.moved (Vm.Alike.refl _) n1, vk_S.moved (Vm.Alike.refl _) n2⟩, va_recv hKc hPc (ci := 3) (q0 := 0) rfl rfl, fun U hU hW => ⟨rfl, by rw [hU], by rw [hU]; exact hPc, va_K.moved hW.alike hKc, hDc.weaken (fun _ _ _ _ => trivial), vk_R.warm hW h_vr_2, (by rw [hU]; exact (va_Z.moved hW.alike (va_Z.kept h_st_CS hS.2.1)).narrow hFc), (by rw [hU]; exact (vk_S.moved hW.alike (vk_S.kept h_st_S hS.2.1)).narrow hFc)⟩⟩ rfl rfl hl.1 rfl (lv_room (Nat.le_of_ble_eq_true rfl)) dX3_readCondition_42 ⟨Nat.le_of_ble_eq_true rfl, Nat.le_of_ble_eq_true rfl⟩) hS (fun q _ h => hFc q h) hFc (fun ra105 u t H1 locs ht hvm hwra105 hB hz1 hk1 hS => ?_)
            obtain ⟨x106, x107, x108, x109, fn110, oa_x106, ob_x106, hP1, hK1, hD1⟩ := hB
            rw [ht] at hP1
            obtain ⟨hP, hD⟩ := va_join (wr := []) (w1 := (wd_1ad0248d h0 h1 h3 x106 h1 h2 v1 x107 x108 x109 h2 g0 f5 h3 g1 fn110)) hP hD [0, 1, 2, 3] [] rfl rfl (by decide) (by decide) hk1 hFc hP1 hD1
            generalize H1 = H at hP hS ⊢
            have hP : va_P (dC, dI) vwCl (wd_1ad0248d h0 h1 h3 x106 h1 h2 v1 x107 x108 x109 h2 g0 f5 h3 g1 fn110) H := hP
            have hD : va_D A (wd_1ad0248d h0 h1 h3 x106 h1 h2 v1 x107 x108 x109 h2 g0 f5 h3 g1 fn110) := hD
            obtain ⟨wa_ra105, wb_ra105⟩ := hwra105
            have wa_ra105 : 0 ≤ ra105.toInt := wa_ra105
            have wb_ra105 : ra105.toInt ≤ 1 := wb_ra105
            refine lv_if_ne (tgt := 50) hx hb dX3_readCondition_45 (by decide) (fun c111 => ?_) (fun c111 => ?_)
            · skip
              have fc111 : ¬ (ra105.toInt = 0) := fun h9 => c111 (Int32.toInt_inj.mp h9)
              refine lv_aload_n hx hb dX3_readCondition_50 rfl (lv_at hl 1 rfl) ?_
              refine lv_bipush (v := 11) hx hb dX3_readCondition_51 (by decide) ?_
              refine lv_iconst (v := 0) hx hb dX3_readCondition_53 (by decide) ?_
              have hPc := hP.sub (ws' := (wd_b958b9da h0 h1 h3 x106 h3 g1 fn110)) [0, 3] rfl
              have hDc := hD.sub (ws' := (wd_b958b9da h0 h1 h3 x106 h3 g1 fn110)) [0, 3] (by decide) rfl
              have hKc := hK.sub (tys' := [(g1, .int)]) [1] rfl
              have hFc := va_free (wc := (wd_b958b9da h0 h1 h3 x106 h3 g1 fn110)) hD hS hA [0, 3] rfl
              refine va_callv (va_runV (As := [.int 11, .int 0]) (rest := []) ⟨hx, hb, hml, hown, hts⟩ (k_X3_write l dC dI h0 h3 h1 x106 g1 fn110 11 0 ⟨by first | omega | decide, by first | omega | decide⟩ H.size) (cwV 2 hts g_X3_readCondition_4 rfl rfl rfl (by decide +kernel) ⟨Nat.le_of_ble_eq_true rfl, Nat.le_of_ble_eq_true rfl⟩) ⟨fun a U g mk q => by obtain ⟨q0, q1, qP, qK, qD⟩ := q; exact ⟨q0, q1, qP, va_K.moved (u := U) (U := U.calling g mk a) (Vm.Alike.refl U.vm) qK, qD⟩, va_recv hKc hPc (ci := 3) (q0 := 0) rfl rfl, fun U hU hW => ⟨rfl, by rw [hU], by rw [hU]; exact hPc, va_K.moved hW.alike hKc, hDc.weaken (fun _ _ _ _ => trivial)⟩⟩ rfl rfl hl.1 rfl (lv_room (Nat.le_of_ble_eq_true rfl)) dX3_readCondition_54 ⟨Nat.le_of_ble_eq_true rfl, Nat.le_of_ble_eq_true rfl⟩) hS (fun q _ h => hFc q h) hFc (fun u t H1 locs ht hvm hwra112 hB hz1 hk1 hS => ?_)
              obtain ⟨x113, fn114, oa_x113, ob_x113, hP1, hK1, hD1⟩ := hB
              rw [ht] at hP1
              obtain ⟨hP, hD⟩ := va_join (wr := (wd_82cdd16b h1 h2 v1 x107 x108 x109 h2 g0 f5)) (w1 := (wd_b958b9da h0 h1 h3 x113 h3 g1 fn114)) hP hD [0, 3] [1, 2] rfl rfl (by decide) (by decide) hk1 hFc hP1 hD1
              generalize H1 = H at hP hS ⊢
              have hP := hP.sub (ws' := (wd_1ad0248d h0 h1 h3 x113 h1 h2 v1 x107 x108 x109 h2 g0 f5 h3 g1 fn114)) [2, 0, 1, 3] rfl
              have hD := hD.sub (ws' := (wd_1ad0248d h0 h1 h3 x113 h1 h2 v1 x107 x108 x109 h2 g0 f5 h3 g1 fn114)) [2, 0, 1, 3] (by decide) rfl
              have hP : va_P (dC, dI) vwCl (wd_1ad0248d h0 h1 h3 x113 h1 h2 v1 x107 x108 x109 h2 g0 f5 h3 g1 fn114) H := hP
              have hD : va_D A (wd_1ad0248d h0 h1 h3 x113 h1 h2 v1 x107 x108 x109 h2 g0 f5 h3 g1 fn114) := hD
              obtain ⟨t115, et115⟩ : ∃ y : Int32, y = x86 + 1 := ⟨_, rfl⟩
              have gt115 : t115.toInt = x86.toInt + (1) := pv_add (a := x86.toInt) (b := (1)) et115 rfl (by decide) (by omega) (by omega)
              refine lv_iinc (v := t115) (lv' := [(3, .int t115), (0, .ref h0), (1, .int 6), (2, .int v7)]) hx hb dX3_readCondition_57 hl (k := 0) rfl (by rw [et115]; rfl) (by decide) rfl (fun ls hl => ?_)
              refine lv_goto (tgt := 13) hx hb dX3_readCondition_60 (by decide) ?_
              exact ih_hL98 t115 x113 x107 x108 x109 fn114 H locs ls (by first | omega | decide) (by first | omega | decide) (by first | omega | decide) (by first | omega | decide) (by first | omega | (simp only [Int.toNat] at *; omega)) hP hD hS (lv_sub hl [0, 1, 2, 3] rfl)
            · skip
              have fc111 : ra105.toInt = 0 := congrArg Int32.toInt c111
              refine lv_iconst (v := 0) hx hb dX3_readCondition_48 (by decide) ?_
              subst hQ
              have hP9 := hP.sub (ws' := (wd_1ad0248d h0 h1 h3 x106 h1 h2 v1 x107 x108 x109 h2 g0 f5 h3 g1 fn110)) [0, 1, 2, 3] rfl
              have hD9 := hD.sub (ws' := (wd_1ad0248d h0 h1 h3 x106 h1 h2 v1 x107 x108 x109 h2 g0 f5 h3 g1 fn110)) [0, 1, 2, 3] (by decide) rfl
              have hK9 := hK.sub (tys' := []) [] rfl
              exact W.zret (v := 0) hx hb hr rfl (fun t ht hW => ⟨⟨0, (), rfl, ⟨by first | omega | decide, by first | omega | decide⟩, x106, x107, x108, x109, fn110, by first | omega | decide, by first | omega | decide, by rw [ht]; exact hP9, va_K.moved hW.alike hK9, hD9⟩, hS.F ht⟩) hS.2.2 dX3_readCondition_49
    exact hL98 _ 0 x2 x3 x4 x5 fn6 H locs ls (by first | omega | decide) (by first | omega | decide) (by first | omega | decide) (by first | omega | decide) (Nat.lt_succ_self _) hP hD hS (lv_sub hl [0, 1, 2, 3] rfl)
  · skip
    have fc7 : ra1.toInt = 0 := congrArg Int32.toInt c7
    refine lv_iconst (v := 0) hx hb dX3_readCondition_9 (by decide) ?_
    subst hQ
    have hP9 := hP.sub (ws' := (wd_1ad0248d h0 h1 h3 x2 h1 h2 v1 x3 x4 x5 h2 g0 f5 h3 g1 fn6)) [0, 1, 2, 3] rfl
    have hD9 := hD.sub (ws' := (wd_1ad0248d h0 h1 h3 x2 h1 h2 v1 x3 x4 x5 h2 g0 f5 h3 g1 fn6)) [0, 1, 2, 3] (by decide) rfl
    have hK9 := hK.sub (tys' := []) [] rfl
    exact W.zret (v := 0) hx hb hr rfl (fun t ht hW => ⟨⟨0, (), rfl, ⟨by first | omega | decide, by first | omega | decide⟩, x2, x3, x4, x5, fn6, by first | omega | decide, by first | omega | decide, by rw [ht]; exact hP9, va_K.moved hW.alike hK9, hD9⟩, hS.F ht⟩) hS.2.2 dX3_readCondition_10
def q_X3_readUnit_1 : List Cond := .code yX3_readUnit cX3_readUnit 5 (some .boolean) :: (([.fieldLink RX3 19 "LeftArguments$LawReader" "tape" "LLeftArguments$Tape;", .code yX10_next cX10_next 1 (some .int), .fieldLink RX10 19 "LeftArguments$Tape" "at" "I", .fieldLink RX10 15 "LeftArguments$Tape" "used" "I", .fieldLink RX10 9 "LeftArguments$Tape" "bytes" "[I", .initialized RX10, .instanceMethod yX10_next, .selects RX10 yX10_next yX10_next, .methodLink RX3 48 yX10_next, .code yX3_comparing cX3_comparing 1 (some .int), .initialized RX3, .static yX3_comparing, .methodLink RX3 62 yX3_comparing, .code yX10_step cX10_step 1 none, .instanceMethod yX10_step, .selects RX10 yX10_step yX10_step, .methodLink RX3 77 yX10_step, .code yX3_readSum cX3_readSum 4 (some .boolean), .code yX3_readTerm cX3_readTerm 4 (some .boolean), .code yX3_readAtom cX3_readAtom 4 (some .boolean), .code yX10_isDigit cX10_isDigit 1 (some .boolean), .static yX10_isDigit, .methodLink RX3 92 yX10_isDigit, .code yX3_write cX3_write 3 none, .fieldLink RX3 15 "LeftArguments$LawReader" "used" "I", .fieldLink RX3 11 "LeftArguments$LawReader" "code" "[I", .instanceMethod yX3_write, .selects RX3 yX3_write yX3_write, .methodLink RX3 66 yX3_write, .code yX10_wrongHere cX10_wrongHere 1 (some .boolean), .fieldLink RX10 22 "LeftArguments$Tape" "wrongAt" "I", .instanceMethod yX10_wrongHere, .selects RX10 yX10_wrongHere yX10_wrongHere, .methodLink RX3 83 yX10_wrongHere, .code yJ0_indexOf_0f7a4 cJ0_indexOf_0f7a4 2 (some .int), .code yJ0_indexOf_7cf53 cJ0_indexOf_7cf53 3 (some .int), .code yJ0_isLatin1_aae02 cJ0_isLatin1_aae02 1 (some .boolean), .fieldLink RJ0 38 "java/lang/String" "COMPACT_STRINGS" "Z", .fieldLink RJ0 15 "java/lang/String" "coder" "B", .initialized RJ0, .instanceMethod yJ0_isLatin1_aae02, .selects RJ0 yJ0_isLatin1_aae02 yJ0_isLatin1_aae02, .methodLink RJ0 492 yJ0_isLatin1_aae02, .fieldLink RJ0 9 "java/lang/String" "value" "[B", .code yJ0_length_8abf5 cJ0_length_8abf5 1 (some .int), .code yJ0_coder_7d493 cJ0_coder_7d493 1 (some .byte), .instanceMethod yJ0_coder_7d493, .selects RJ0 yJ0_coder_7d493 yJ0_coder_7d493, .methodLink RJ0 335 yJ0_coder_7d493, .instanceMethod yJ0_length_8abf5, .selects RJ0 yJ0_length_8abf5 yJ0_length_8abf5, .methodLink RJ0 505 yJ0_length_8abf5, .code yJ1_indexOf_4cfef cJ1_indexOf_4cfef 4 (some .int), .code yJ1_canEncode_9a6ad cJ1_canEncode_9a6ad 1 (some .boolean), .initialized RJ1, .static yJ1_canEncode_9a6ad, .methodLink RJ1 88 yJ1_canEncode_9a6ad, .methodLink RJ1 92 Lib.Math.max.name, .static Lib.Math.max.name, .initialized "java/lang/Math", .code Lib.Math.max.name Lib.Math.max.code 2 (some .int), .methodLink RJ1 38 Lib.Math.min.name, .static Lib.Math.min.name, .code Lib.Math.min.name Lib.Math.min.code 2 (some .int), .code yJ1_indexOfChar_4cfef cJ1_indexOfChar_4cfef 6 (some .int), .static yJ1_indexOfChar_4cfef, .methodLink RJ1 95 yJ1_indexOfChar_4cfef, .static yJ1_indexOf_4cfef, .methodLink RJ0 637 yJ1_indexOf_4cfef, .instanceMethod yJ0_indexOf_7cf53, .selects RJ0 yJ0_indexOf_7cf53 yJ0_indexOf_7cf53, .methodLink RJ0 633 yJ0_indexOf_7cf53, .instanceMethod yJ0_indexOf_0f7a4, .selects RJ0 yJ0_indexOf_0f7a4 yJ0_indexOf_0f7a4, .methodLink RX3 103 yJ0_indexOf_0f7a4, .code yX10_takeNumber cX10_takeNumber 3 (some .boolean), .methodLink RX10 37 yX10_next, .methodLink RX10 45 yX10_isDigit, .fieldLink RX10 25 "LeftArguments$Tape" "number" "I", .code yX10_sign cX10_sign 1 (some .int), .instanceMethod yX10_sign, .selects RX10 yX10_sign yX10_sign, .methodLink RX10 49 yX10_sign, .methodLink RX10 41 yX10_wrongHere, .instanceMethod yX10_takeNumber, .selects RX10 yX10_takeNumber yX10_takeNumber, .methodLink RX3 95 yX10_takeNumber, .code yX10_number cX10_number 1 (some .int), .instanceMethod yX10_number, .selects RX10 yX10_number yX10_number, .methodLink RX3 98 yX10_number, .instanceMethod yX3_readAtom, .selects RX3 yX3_readAtom yX3_readAtom, .methodLink RX3 89 yX3_readAtom, .instanceMethod yX3_readTerm, .selects RX3 yX3_readTerm yX3_readTerm, .methodLink RX3 86 yX3_readTerm, .instanceMethod yX3_readSum, .selects RX3 yX3_readSum yX3_readSum, .methodLink RX3 59 yX3_readSum, .code yX10_take cX10_take 2 (some .boolean), .instanceMethod yX10_take, .selects RX10 yX10_take yX10_take, .methodLink RX3 51 yX10_take, .code yX3_readUnit cX3_readUnit 5 (some .boolean), .instanceMethod yX3_readUnit, .selects RX3 yX3_readUnit yX3_readUnit, .methodLink RX3 80 yX3_readUnit, .code yX3_readCondition cX3_readCondition 4 (some .boolean), .code yX3_readTruth cX3_readTruth 4 (some .boolean), .instanceMethod yX3_readTruth, .selects RX3 yX3_readTruth yX3_readTruth, .methodLink RX3 74 yX3_readTruth, .instanceMethod yX3_readCondition, .selects RX3 yX3_readCondition yX3_readCondition, .methodLink RX3 70 yX3_readCondition] : List Cond) ++ wsX30 ++ wsX100)
set_option maxRecDepth 20000 in
theorem g_X3_readUnit_1_0 : GoodIn q_X3_readUnit_1 (wsV RX3 48 RX10 yX10_next q_X10_next) := goodIn_app (goodIn_r _ [9, 7, 8, 6] rfl (by decide +kernel)) (goodIn_ca (goodIn_r (.code yX10_next cX10_next 1 (some .int) :: [.fieldLink RX10 19 "LeftArguments$Tape" "at" "I", .fieldLink RX10 15 "LeftArguments$Tape" "used" "I", .fieldLink RX10 9 "LeftArguments$Tape" "bytes" "[I"]) [2, 3, 4, 5] rfl (by decide +kernel)) (goodIn_sub (fun _ h => List.mem_cons_of_mem _ (List.mem_append_right _ h)) gwX10))
set_option maxRecDepth 20000 in
theorem g_X3_readUnit_1_2 : GoodIn q_X3_readUnit_1 (va_wsS RX3 62 yX3_comparing q_X3_comparing) := goodIn_app (goodIn_r _ [13, 12, 11] rfl (by decide +kernel)) (goodIn_r (.code yX3_comparing cX3_comparing 1 (some .int) :: []) [10] rfl (by decide +kernel))
set_option maxRecDepth 20000 in
theorem g_X3_readUnit_1_3 : GoodIn q_X3_readUnit_1 (wsV RX3 77 RX10 yX10_step q_X10_step) := goodIn_app (goodIn_r _ [17, 15, 16, 6] rfl (by decide +kernel)) (goodIn_ca (goodIn_r (.code yX10_step cX10_step 1 none :: [.fieldLink RX10 19 "LeftArguments$Tape" "at" "I"]) [14, 3] rfl (by decide +kernel)) (goodIn_sub (fun _ h => List.mem_cons_of_mem _ (List.mem_append_right _ h)) gwX10))
set_option maxRecDepth 20000 in
theorem g_X3_readUnit_1_4 : GoodIn q_X3_readUnit_1 (wsV RX3 59 RX3 yX3_readSum q_X3_readSum_1) := goodIn_app (goodIn_r _ [100, 98, 99, 11] rfl (by decide +kernel)) (goodIn_ca (goodIn_ca (goodIn_r (.code yX3_readSum cX3_readSum 4 (some .boolean) :: [.code yX3_readTerm cX3_readTerm 4 (some .boolean), .code yX3_readAtom cX3_readAtom 4 (some .boolean), .fieldLink RX3 19 "LeftArguments$LawReader" "tape" "LLeftArguments$Tape;", .code yX10_next cX10_next 1 (some .int), .fieldLink RX10 19 "LeftArguments$Tape" "at" "I", .fieldLink RX10 15 "LeftArguments$Tape" "used" "I", .fieldLink RX10 9 "LeftArguments$Tape" "bytes" "[I", .initialized RX10, .instanceMethod yX10_next, .selects RX10 yX10_next yX10_next, .methodLink RX3 48 yX10_next, .code yX10_isDigit cX10_isDigit 1 (some .boolean), .static yX10_isDigit, .methodLink RX3 92 yX10_isDigit, .code yX10_step cX10_step 1 none, .instanceMethod yX10_step, .selects RX10 yX10_step yX10_step, .methodLink RX3 77 yX10_step, .code yX3_write cX3_write 3 none, .fieldLink RX3 15 "LeftArguments$LawReader" "used" "I", .fieldLink RX3 11 "LeftArguments$LawReader" "code" "[I", .initialized RX3, .instanceMethod yX3_write, .selects RX3 yX3_write yX3_write, .methodLink RX3 66 yX3_write, .code yX10_wrongHere cX10_wrongHere 1 (some .boolean), .fieldLink RX10 22 "LeftArguments$Tape" "wrongAt" "I", .instanceMethod yX10_wrongHere, .selects RX10 yX10_wrongHere yX10_wrongHere, .methodLink RX3 83 yX10_wrongHere, .code yJ0_indexOf_0f7a4 cJ0_indexOf_0f7a4 2 (some .int), .code yJ0_indexOf_7cf53 cJ0_indexOf_7cf53 3 (some .int), .code yJ0_isLatin1_aae02 cJ0_isLatin1_aae02 1 (some .boolean), .fieldLink RJ0 38 "java/lang/String" "COMPACT_STRINGS" "Z", .fieldLink RJ0 15 "java/lang/String" "coder" "B", .initialized RJ0, .instanceMethod yJ0_isLatin1_aae02, .selects RJ0 yJ0_isLatin1_aae02 yJ0_isLatin1_aae02, .methodLink RJ0 492 yJ0_isLatin1_aae02, .fieldLink RJ0 9 "java/lang/String" "value" "[B", .code yJ0_length_8abf5 cJ0_length_8abf5 1 (some .int), .code yJ0_coder_7d493 cJ0_coder_7d493 1 (some .byte), .instanceMethod yJ0_coder_7d493, .selects RJ0 yJ0_coder_7d493 yJ0_coder_7d493, .methodLink RJ0 335 yJ0_coder_7d493, .instanceMethod yJ0_length_8abf5, .selects RJ0 yJ0_length_8abf5 yJ0_length_8abf5, .methodLink RJ0 505 yJ0_length_8abf5, .code yJ1_indexOf_4cfef cJ1_indexOf_4cfef 4 (some .int), .code yJ1_canEncode_9a6ad cJ1_canEncode_9a6ad 1 (some .boolean), .initialized RJ1, .static yJ1_canEncode_9a6ad, .methodLink RJ1 88 yJ1_canEncode_9a6ad, .methodLink RJ1 92 Lib.Math.max.name, .static Lib.Math.max.name, .initialized "java/lang/Math", .code Lib.Math.max.name Lib.Math.max.code 2 (some .int), .methodLink RJ1 38 Lib.Math.min.name, .static Lib.Math.min.name, .code Lib.Math.min.name Lib.Math.min.code 2 (some .int), .code yJ1_indexOfChar_4cfef cJ1_indexOfChar_4cfef 6 (some .int), .static yJ1_indexOfChar_4cfef, .methodLink RJ1 95 yJ1_indexOfChar_4cfef, .static yJ1_indexOf_4cfef, .methodLink RJ0 637 yJ1_indexOf_4cfef, .instanceMethod yJ0_indexOf_7cf53, .selects RJ0 yJ0_indexOf_7cf53 yJ0_indexOf_7cf53, .methodLink RJ0 633 yJ0_indexOf_7cf53, .instanceMethod yJ0_indexOf_0f7a4, .selects RJ0 yJ0_indexOf_0f7a4 yJ0_indexOf_0f7a4, .methodLink RX3 103 yJ0_indexOf_0f7a4, .code yX10_takeNumber cX10_takeNumber 3 (some .boolean), .methodLink RX10 37 yX10_next, .methodLink RX10 45 yX10_isDigit, .fieldLink RX10 25 "LeftArguments$Tape" "number" "I", .code yX10_sign cX10_sign 1 (some .int), .instanceMethod yX10_sign, .selects RX10 yX10_sign yX10_sign, .methodLink RX10 49 yX10_sign, .methodLink RX10 41 yX10_wrongHere, .instanceMethod yX10_takeNumber, .selects RX10 yX10_takeNumber yX10_takeNumber, .methodLink RX3 95 yX10_takeNumber, .code yX10_number cX10_number 1 (some .int), .instanceMethod yX10_number, .selects RX10 yX10_number yX10_number, .methodLink RX3 98 yX10_number, .code yX3_readSum cX3_readSum 4 (some .boolean), .instanceMethod yX3_readAtom, .selects RX3 yX3_readAtom yX3_readAtom, .methodLink RX3 89 yX3_readAtom, .instanceMethod yX3_readTerm, .selects RX3 yX3_readTerm yX3_readTerm, .methodLink RX3 86 yX3_readTerm, .instanceMethod yX3_readSum, .selects RX3 yX3_readSum yX3_readSum, .methodLink RX3 59 yX3_readSum, .code yX10_take cX10_take 2 (some .boolean), .instanceMethod yX10_take, .selects RX10 yX10_take yX10_take, .methodLink RX3 51 yX10_take]) [18, 19, 20, 1, 2, 3, 4, 5, 6, 7, 8, 9, 21, 22, 23, 14, 15, 16, 17, 24, 25, 26, 11, 27, 28, 29, 30, 31, 32, 33, 34, 35, 36, 37, 38, 39, 40, 41, 42, 43, 44, 45, 46, 47, 48, 49, 50, 51, 52, 53, 54, 55, 56, 57, 58, 59, 60, 61, 62, 63, 64, 65, 66, 67, 68, 69, 70, 71, 72, 73, 74, 75, 76, 77, 78, 79, 80, 81, 82, 83, 84, 85, 86, 87, 88, 89, 90, 91, 18, 92, 93, 94, 95, 96, 97, 98, 99, 100, 101, 102, 103, 104] rfl (by decide +kernel)) (goodIn_sub (fun _ h => List.mem_cons_of_mem _ (List.mem_append_left _ (List.mem_append_right _ h))) gwX3)) (goodIn_sub (fun _ h => List.mem_cons_of_mem _ (List.mem_append_right _ h)) gwX10))
set_option maxRecDepth 20000 in
theorem g_X3_readUnit_1_5 : GoodIn q_X3_readUnit_1 (wsV RX3 66 RX3 yX3_write q_X3_write) := goodIn_app (goodIn_r _ [29, 27, 28, 11] rfl (by decide +kernel)) (goodIn_ca (goodIn_r (.code yX3_write cX3_write 3 none :: [.fieldLink RX3 15 "LeftArguments$LawReader" "used" "I", .fieldLink RX3 11 "LeftArguments$LawReader" "code" "[I"]) [24, 25, 26] rfl (by decide +kernel)) (goodIn_sub (fun _ h => List.mem_cons_of_mem _ (List.mem_append_left _ (List.mem_append_right _ h))) gwX3))
set_option maxRecDepth 20000 in
theorem g_X3_readUnit_1_6 : GoodIn q_X3_readUnit_1 (wsV RX3 83 RX10 yX10_wrongHere q_X10_wrongHere) := goodIn_app (goodIn_r _ [34, 32, 33, 6] rfl (by decide +kernel)) (goodIn_ca (goodIn_r (.code yX10_wrongHere cX10_wrongHere 1 (some .boolean) :: [.fieldLink RX10 19 "LeftArguments$Tape" "at" "I", .fieldLink RX10 22 "LeftArguments$Tape" "wrongAt" "I"]) [30, 3, 31] rfl (by decide +kernel)) (goodIn_sub (fun _ h => List.mem_cons_of_mem _ (List.mem_append_right _ h)) gwX10))
set_option maxRecDepth 20000 in
theorem g_X3_readUnit_1_8 : GoodIn q_X3_readUnit_1 (wsV RX3 80 RX3 yX3_readUnit q_X3_readUnit) := goodIn_app (goodIn_r _ [108, 106, 107, 11] rfl (by decide +kernel)) (goodIn_ca (goodIn_ca (goodIn_r (.code yX3_readUnit cX3_readUnit 5 (some .boolean) :: [.fieldLink RX3 19 "LeftArguments$LawReader" "tape" "LLeftArguments$Tape;", .code yX10_next cX10_next 1 (some .int), .fieldLink RX10 19 "LeftArguments$Tape" "at" "I", .fieldLink RX10 15 "LeftArguments$Tape" "used" "I", .fieldLink RX10 9 "LeftArguments$Tape" "bytes" "[I", .initialized RX10, .instanceMethod yX10_next, .selects RX10 yX10_next yX10_next, .methodLink RX3 48 yX10_next, .code yX3_comparing cX3_comparing 1 (some .int), .initialized RX3, .static yX3_comparing, .methodLink RX3 62 yX3_comparing, .code yX10_step cX10_step 1 none, .instanceMethod yX10_step, .selects RX10 yX10_step yX10_step, .methodLink RX3 77 yX10_step, .code yX3_readSum cX3_readSum 4 (some .boolean), .code yX3_readTerm cX3_readTerm 4 (some .boolean), .code yX3_readAtom cX3_readAtom 4 (some .boolean), .code yX10_isDigit cX10_isDigit 1 (some .boolean), .static yX10_isDigit, .methodLink RX3 92 yX10_isDigit, .code yX3_write cX3_write 3 none, .fieldLink RX3 15 "LeftArguments$LawReader" "used" "I", .fieldLink RX3 11 "LeftArguments$LawReader" "code" "[I", .instanceMethod yX3_write, .selects RX3 yX3_write yX3_write, .methodLink RX3 66 yX3_write, .code yX10_wrongHere cX10_wrongHere 1 (some .boolean), .fieldLink RX10 22 "LeftArguments$Tape" "wrongAt" "I", .instanceMethod yX10_wrongHere, .selects RX10 yX10_wrongHere yX10_wrongHere, .methodLink RX3 83 yX10_wrongHere, .code yJ0_indexOf_0f7a4 cJ0_indexOf_0f7a4 2 (some .int), .code yJ0_indexOf_7cf53 cJ0_indexOf_7cf53 3 (some .int), .code yJ0_isLatin1_aae02 cJ0_isLatin1_aae02 1 (some .boolean), .fieldLink RJ0 38 "java/lang/String" "COMPACT_STRINGS" "Z", .fieldLink RJ0 15 "java/lang/String" "coder" "B", .initialized RJ0, .instanceMethod yJ0_isLatin1_aae02, .selects RJ0 yJ0_isLatin1_aae02 yJ0_isLatin1_aae02, .methodLink RJ0 492 yJ0_isLatin1_aae02, .fieldLink RJ0 9 "java/lang/String" "value" "[B", .code yJ0_length_8abf5 cJ0_length_8abf5 1 (some .int), .code yJ0_coder_7d493 cJ0_coder_7d493 1 (some .byte), .instanceMethod yJ0_coder_7d493, .selects RJ0 yJ0_coder_7d493 yJ0_coder_7d493, .methodLink RJ0 335 yJ0_coder_7d493, .instanceMethod yJ0_length_8abf5, .selects RJ0 yJ0_length_8abf5 yJ0_length_8abf5, .methodLink RJ0 505 yJ0_length_8abf5, .code yJ1_indexOf_4cfef cJ1_indexOf_4cfef 4 (some .int), .code yJ1_canEncode_9a6ad cJ1_canEncode_9a6ad 1 (some .boolean), .initialized RJ1, .static yJ1_canEncode_9a6ad, .methodLink RJ1 88 yJ1_canEncode_9a6ad, .methodLink RJ1 92 Lib.Math.max.name, .static Lib.Math.max.name, .initialized "java/lang/Math", .code Lib.Math.max.name Lib.Math.max.code 2 (some .int), .methodLink RJ1 38 Lib.Math.min.name, .static Lib.Math.min.name, .code Lib.Math.min.name Lib.Math.min.code 2 (some .int), .code yJ1_indexOfChar_4cfef cJ1_indexOfChar_4cfef 6 (some .int), .static yJ1_indexOfChar_4cfef, .methodLink RJ1 95 yJ1_indexOfChar_4cfef, .static yJ1_indexOf_4cfef, .methodLink RJ0 637 yJ1_indexOf_4cfef, .instanceMethod yJ0_indexOf_7cf53, .selects RJ0 yJ0_indexOf_7cf53 yJ0_indexOf_7cf53, .methodLink RJ0 633 yJ0_indexOf_7cf53, .instanceMethod yJ0_indexOf_0f7a4, .selects RJ0 yJ0_indexOf_0f7a4 yJ0_indexOf_0f7a4, .methodLink RX3 103 yJ0_indexOf_0f7a4, .code yX10_takeNumber cX10_takeNumber 3 (some .boolean), .methodLink RX10 37 yX10_next, .methodLink RX10 45 yX10_isDigit, .fieldLink RX10 25 "LeftArguments$Tape" "number" "I", .code yX10_sign cX10_sign 1 (some .int), .instanceMethod yX10_sign, .selects RX10 yX10_sign yX10_sign, .methodLink RX10 49 yX10_sign, .methodLink RX10 41 yX10_wrongHere, .instanceMethod yX10_takeNumber, .selects RX10 yX10_takeNumber yX10_takeNumber, .methodLink RX3 95 yX10_takeNumber, .code yX10_number cX10_number 1 (some .int), .instanceMethod yX10_number, .selects RX10 yX10_number yX10_number, .methodLink RX3 98 yX10_number, .instanceMethod yX3_readAtom, .selects RX3 yX3_readAtom yX3_readAtom, .methodLink RX3 89 yX3_readAtom, .instanceMethod yX3_readTerm, .selects RX3 yX3_readTerm yX3_readTerm, .methodLink RX3 86 yX3_readTerm, .instanceMethod yX3_readSum, .selects RX3 yX3_readSum yX3_readSum, .methodLink RX3 59 yX3_readSum]) [105, 1, 2, 3, 4, 5, 6, 7, 8, 9, 10, 11, 12, 13, 14, 15, 16, 17, 18, 19, 20, 21, 22, 23, 24, 25, 26, 27, 28, 29, 30, 31, 32, 33, 34, 35, 36, 37, 38, 39, 40, 41, 42, 43, 44, 45, 46, 47, 48, 49, 50, 51, 52, 53, 54, 55, 56, 57, 58, 59, 60, 61, 62, 63, 64, 65, 66, 67, 68, 69, 70, 71, 72, 73, 74, 75, 76, 77, 78, 79, 80, 81, 82, 83, 84, 85, 86, 87, 88, 89, 90, 91, 92, 93, 94, 95, 96, 97, 98, 99, 100] rfl (by decide +kernel)) (goodIn_sub (fun _ h => List.mem_cons_of_mem _ (List.mem_append_left _ (List.mem_append_right _ h))) gwX3)) (goodIn_sub (fun _ h => List.mem_cons_of_mem _ (List.mem_append_right _ h)) gwX10))
set_option maxRecDepth 20000 in
theorem g_X3_readUnit_1_18 : GoodIn q_X3_readUnit_1 (wsV RX3 70 RX3 yX3_readCondition q_X3_readCondition) := goodIn_app (goodIn_r _ [116, 114, 115, 11] rfl (by decide +kernel)) (goodIn_ca (goodIn_ca (goodIn_r (.code yX3_readCondition cX3_readCondition 4 (some .boolean) :: [.code yX3_readTruth cX3_readTruth 4 (some .boolean), .code yX3_readUnit cX3_readUnit 5 (some .boolean), .fieldLink RX3 19 "LeftArguments$LawReader" "tape" "LLeftArguments$Tape;", .code yX10_next cX10_next 1 (some .int), .fieldLink RX10 19 "LeftArguments$Tape" "at" "I", .fieldLink RX10 15 "LeftArguments$Tape" "used" "I", .fieldLink RX10 9 "LeftArguments$Tape" "bytes" "[I", .initialized RX10, .instanceMethod yX10_next, .selects RX10 yX10_next yX10_next, .methodLink RX3 48 yX10_next, .code yX3_comparing cX3_comparing 1 (some .int), .initialized RX3, .static yX3_comparing, .methodLink RX3 62 yX3_comparing, .code yX10_step cX10_step 1 none, .instanceMethod yX10_step, .selects RX10 yX10_step yX10_step, .methodLink RX3 77 yX10_step, .code yX3_readSum cX3_readSum 4 (some .boolean), .code yX3_readTerm cX3_readTerm 4 (some .boolean), .code yX3_readAtom cX3_readAtom 4 (some .boolean), .code yX10_isDigit cX10_isDigit 1 (some .boolean), .static yX10_isDigit, .methodLink RX3 92 yX10_isDigit, .code yX3_write cX3_write 3 none, .fieldLink RX3 15 "LeftArguments$LawReader" "used" "I", .fieldLink RX3 11 "LeftArguments$LawReader" "code" "[I", .instanceMethod yX3_write, .selects RX3 yX3_write yX3_write, .methodLink RX3 66 yX3_write, .code yX10_wrongHere cX10_wrongHere 1 (some .boolean), .fieldLink RX10 22 "LeftArguments$Tape" "wrongAt" "I", .instanceMethod yX10_wrongHere, .selects RX10 yX10_wrongHere yX10_wrongHere, .methodLink RX3 83 yX10_wrongHere, .code yJ0_indexOf_0f7a4 cJ0_indexOf_0f7a4 2 (some .int), .code yJ0_indexOf_7cf53 cJ0_indexOf_7cf53 3 (some .int), .code yJ0_isLatin1_aae02 cJ0_isLatin1_aae02 1 (some .boolean), .fieldLink RJ0 38 "java/lang/String" "COMPACT_STRINGS" "Z", .fieldLink RJ0 15 "java/lang/String" "coder" "B", .initialized RJ0, .instanceMethod yJ0_isLatin1_aae02, .selects RJ0 yJ0_isLatin1_aae02 yJ0_isLatin1_aae02, .methodLink RJ0 492 yJ0_isLatin1_aae02, .fieldLink RJ0 9 "java/lang/String" "value" "[B", .code yJ0_length_8abf5 cJ0_length_8abf5 1 (some .int), .code yJ0_coder_7d493 cJ0_coder_7d493 1 (some .byte), .instanceMethod yJ0_coder_7d493, .selects RJ0 yJ0_coder_7d493 yJ0_coder_7d493, .methodLink RJ0 335 yJ0_coder_7d493, .instanceMethod yJ0_length_8abf5, .selects RJ0 yJ0_length_8abf5 yJ0_length_8abf5, .methodLink RJ0 505 yJ0_length_8abf5, .code yJ1_indexOf_4cfef cJ1_indexOf_4cfef 4 (some .int), .code yJ1_canEncode_9a6ad cJ1_canEncode_9a6ad 1 (some .boolean), .initialized RJ1, .static yJ1_canEncode_9a6ad, .methodLink RJ1 88 yJ1_canEncode_9a6ad, .methodLink RJ1 92 Lib.Math.max.name, .static Lib.Math.max.name, .initialized "java/lang/Math", .code Lib.Math.max.name Lib.Math.max.code 2 (some .int), .methodLink RJ1 38 Lib.Math.min.name, .static Lib.Math.min.name, .code Lib.Math.min.name Lib.Math.min.code 2 (some .int), .code yJ1_indexOfChar_4cfef cJ1_indexOfChar_4cfef 6 (some .int), .static yJ1_indexOfChar_4cfef, .methodLink RJ1 95 yJ1_indexOfChar_4cfef, .static yJ1_indexOf_4cfef, .methodLink RJ0 637 yJ1_indexOf_4cfef, .instanceMethod yJ0_indexOf_7cf53, .selects RJ0 yJ0_indexOf_7cf53 yJ0_indexOf_7cf53, .methodLink RJ0 633 yJ0_indexOf_7cf53, .instanceMethod yJ0_indexOf_0f7a4, .selects RJ0 yJ0_indexOf_0f7a4 yJ0_indexOf_0f7a4, .methodLink RX3 103 yJ0_indexOf_0f7a4, .code yX10_takeNumber cX10_takeNumber 3 (some .boolean), .methodLink RX10 37 yX10_next, .methodLink RX10 45 yX10_isDigit, .fieldLink RX10 25 "LeftArguments$Tape" "number" "I", .code yX10_sign cX10_sign 1 (some .int), .instanceMethod yX10_sign, .selects RX10 yX10_sign yX10_sign, .methodLink RX10 49 yX10_sign, .methodLink RX10 41 yX10_wrongHere, .instanceMethod yX10_takeNumber, .selects RX10 yX10_takeNumber yX10_takeNumber, .methodLink RX3 95 yX10_takeNumber, .code yX10_number cX10_number 1 (some .int), .instanceMethod yX10_number, .selects RX10 yX10_number yX10_number, .methodLink RX3 98 yX10_number, .instanceMethod yX3_readAtom, .selects RX3 yX3_readAtom yX3_readAtom, .methodLink RX3 89 yX3_readAtom, .instanceMethod yX3_readTerm, .selects RX3 yX3_readTerm yX3_readTerm, .methodLink RX3 86 yX3_readTerm, .instanceMethod yX3_readSum, .selects RX3 yX3_readSum yX3_readSum, .methodLink RX3 59 yX3_readSum, .instanceMethod yX3_readUnit, .selects RX3 yX3_readUnit yX3_readUnit, .methodLink RX3 80 yX3_readUnit, .instanceMethod yX3_readTruth, .selects RX3 yX3_readTruth yX3_readTruth, .methodLink RX3 74 yX3_readTruth]) [109, 110, 105, 1, 2, 3, 4, 5, 6, 7, 8, 9, 10, 11, 12, 13, 14, 15, 16, 17, 18, 19, 20, 21, 22, 23, 24, 25, 26, 27, 28, 29, 30, 31, 32, 33, 34, 35, 36, 37, 38, 39, 40, 41, 42, 43, 44, 45, 46, 47, 48, 49, 50, 51, 52, 53, 54, 55, 56, 57, 58, 59, 60, 61, 62, 63, 64, 65, 66, 67, 68, 69, 70, 71, 72, 73, 74, 75, 76, 77, 78, 79, 80, 81, 82, 83, 84, 85, 86, 87, 88, 89, 90, 91, 92, 93, 94, 95, 96, 97, 98, 99, 100, 106, 107, 108, 111, 112, 113] rfl (by decide +kernel)) (goodIn_sub (fun _ h => List.mem_cons_of_mem _ (List.mem_append_left _ (List.mem_append_right _ h))) gwX3)) (goodIn_sub (fun _ h => List.mem_cons_of_mem _ (List.mem_append_right _ h)) gwX10))
set_option maxRecDepth 20000 in
theorem g_X3_readUnit_1_19 : GoodIn q_X3_readUnit_1 (wsV RX3 51 RX10 yX10_take q_X10_take) := goodIn_app (goodIn_r _ [104, 102, 103, 6] rfl (by decide +kernel)) (goodIn_ca (goodIn_r (.code yX10_take cX10_take 2 (some .boolean) :: [.code yX10_next cX10_next 1 (some .int), .fieldLink RX10 19 "LeftArguments$Tape" "at" "I", .fieldLink RX10 15 "LeftArguments$Tape" "used" "I", .fieldLink RX10 9 "LeftArguments$Tape" "bytes" "[I", .initialized RX10, .instanceMethod yX10_next, .selects RX10 yX10_next yX10_next, .methodLink RX10 37 yX10_next, .code yX10_wrongHere cX10_wrongHere 1 (some .boolean), .fieldLink RX10 22 "LeftArguments$Tape" "wrongAt" "I", .instanceMethod yX10_wrongHere, .selects RX10 yX10_wrongHere yX10_wrongHere, .methodLink RX10 41 yX10_wrongHere]) [101, 2, 3, 4, 5, 6, 7, 8, 77, 30, 31, 32, 33, 84] rfl (by decide +kernel)) (goodIn_sub (fun _ h => List.mem_cons_of_mem _ (List.mem_append_right _ h)) gwX10))
set_option maxHeartbeats 4000000 in
set_option maxRecDepth 100000 in
theorem k_X3_readUnit_1 (l : Launch) (dC : Nat → ClassId) (dI : Nat → Nat → Nat) (adK : Nat → Nat) (adV : Nat → Nat) (h0 : Nat) (h1 : Nat) (h2 : Nat) (h3 : Nat) (v0 : Int32) (v1 : Int32) (v2 : Int32) (v3 : Int32) (v4 : Int32) (g0 : ClassId) (f5 : Nat → Int32) (g1 : ClassId) (f6 : Nat → Int32) (v7 : Int32) (i_v0 : 0 ≤ v0.toInt ∧ v0.toInt ≤ 256) (i_v1 : 0 ≤ v1.toInt ∧ v1.toInt ≤ 240) (i_v7 : 0 ≤ v7.toInt ∧ v7.toInt ≤ 1) (sz : Nat) : Met l yX3_readUnit q_X3_readUnit_1 ({ frames := 10, cells := 0, slots := 0, locals := 230 }) (va_Pc [.ref h0, .int 5, .int v7] (fun U => U.heap.size = sz ∧ va_P (dC, dI) vwCl (wd_1ad0248d h0 h1 h3 v0 h1 h2 v1 v2 v3 v4 h2 g0 f5 h3 g1 f6) U.heap ∧ va_K (dC, dI) vwCl [(g0, .int), (g1, .int)] U ∧ va_D (fun _ => True) (wd_1ad0248d h0 h1 h3 v0 h1 h2 v1 v2 v3 v4 h2 g0 f5 h3 g1 f6) ∧ vk_R RX3 101 "zaondt" (adK 2) U ∧ va_Z "java/lang/String" "COMPACT_STRINGS" "Z" (.int 1) (va_A (wd_1ad0248d h0 h1 h3 v0 h1 h2 v1 v2 v3 v4 h2 g0 f5 h3 g1 f6) sz) U U.heap ∧ vk_S 3 pv_len3 pv_byt3 adK adV (va_A (wd_1ad0248d h0 h1 h3 v0 h1 h2 v1 v2 v3 v4 h2 g0 f5 h3 g1 f6) sz) U U.heap)) (va_Qi (fun (r : Int32) (_ : Unit) => 0 ≤ r.toInt ∧ r.toInt ≤ 1) (fun (_ : Unit) (t : State) => ∃ (o_h0_2 : Int32) (o_h1_2 : Int32) (o_h1_3 : Int32) (o_h1_4 : Int32) (o_h3 : Nat → Int32), 0 ≤ o_h0_2.toInt ∧ o_h0_2.toInt ≤ 256 ∧ va_P (dC, dI) vwCl (wd_1ad0248d h0 h1 h3 o_h0_2 h1 h2 v1 o_h1_2 o_h1_3 o_h1_4 h2 g0 f5 h3 g1 o_h3) t.heap ∧ va_K (dC, dI) vwCl [] t ∧ va_D (va_A (wd_1ad0248d h0 h1 h3 v0 h1 h2 v1 v2 v3 v4 h2 g0 f5 h3 g1 f6) sz) (wd_1ad0248d h0 h1 h3 o_h0_2 h1 h2 v1 o_h1_2 o_h1_3 o_h1_4 h2 g0 f5 h3 g1 o_h3)) (va_A (wd_1ad0248d h0 h1 h3 v0 h1 h2 v1 v2 v3 v4 h2 g0 f5 h3 g1 f6) sz)) 0 0 (va_A (wd_1ad0248d h0 h1 h3 v0 h1 h2 v1 v2 v3 v4 h2 g0 f5 h3 g1 f6) sz) := by
  refine Met.ofW (cc := cX3_readUnit) (maxL := 5) (ret := (some .boolean)) (by decide) rfl ?_
  intro p e s m args below meth c s₁ B hml hv
  obtain ⟨i_v0a, i_v0b⟩ := i_v0
  obtain ⟨i_v1a, i_v1b⟩ := i_v1
  obtain ⟨i_v7a, i_v7b⟩ := i_v7
  obtain ⟨rfl, hsz, hP, hK, hD0, h_vr_2, h_st_CS, h_st_S⟩ := hv
  have hx := B.exec
  have hb := B.bytes
  have hr := B.returns
  have hts := atoms_spec (ws := q_X3_readUnit_1) B.pre
  have hown : s.vm.findClass RX3 = some m.cls := findClass_of_methodNamed B.named
  have hlocks := B.notSynchronized
  subst hsz
  have hD := hD0.self (sz := s.heap.size)
  generalize hAe : va_A (wd_1ad0248d h0 h1 h3 v0 h1 h2 v1 v2 v3 v4 h2 g0 f5 h3 g1 f6) s.heap.size = A at hD h_st_CS h_st_S ⊢
  have hA : ∀ q : Nat, s.heap.size ≤ q → A q := fun q h => by rw [← hAe]; exact Or.inr h
  have hS : va_S A s.heap s.heap [] := va_S.rf
  generalize hQ : (MQ below _ _ s 0 0 A) = Q
  have hl := lv_entry ([.ref h0, .int 5, .int v7]) (n := 5) (Nat.le_of_ble_eq_true rfl)
  rw [lg_entry_eq]
  generalize (lg_sl ([.ref h0, .int 5, .int v7]) ++ List.replicate (5 - (lg_sl ([.ref h0, .int 5, .int v7])).length) Slot.unset).toArray = ls at hl ⊢
  have hl : lv_has ls 5 [(0, .ref h0), (1, .int 5), (2, .int v7)] := hl
  obtain ⟨H, hH⟩ : ∃ H : Heap, H = s.heap := ⟨_, rfl⟩
  obtain ⟨locs, hlocs⟩ : ∃ y : List Loc, y = [] := ⟨_, rfl⟩
  have hS : va_S A s.heap H locs := by rw [hH, hlocs]; exact va_S.rf
  have hP : va_P (dC, dI) vwCl (wd_1ad0248d h0 h1 h3 v0 h1 h2 v1 v2 v3 v4 h2 g0 f5 h3 g1 f6) H := by rw [hH]; exact hP
  rw [← hH, ← hlocs]
  refine lv_aload_n hx hb dX3_readUnit_0 rfl (lv_at hl 0 rfl) ?_
  refine va_get (D := (dC, dI)) (ci := 3) (v := .ref h1) (C := RX3) (T := TX3) (N := 3) hx hb hts (fun _ h => List.mem_cons_of_mem _ (List.mem_append_left _ (List.mem_append_right _ h))) hown hK hP 0 rfl rfl 0 (by decide) (hts (.fieldLink RX3 19 "LeftArguments$LawReader" "tape" "LLeftArguments$Tape;") (List.mem_cons_of_mem _ (List.mem_append_left _ (List.mem_append_left _ (List.mem_of_getElem? (i := 0) rfl))))) (fun _ h9 => h9) rfl dX3_readUnit_1 ?_
  have hPc := hP.sub (ws' := (wd_82cdd16b h1 h2 v1 v2 v3 v4 h2 g0 f5)) [1, 2] rfl
  have hDc := hD.sub (ws' := (wd_82cdd16b h1 h2 v1 v2 v3 v4 h2 g0 f5)) [1, 2] (by decide) rfl
  have hKc := hK.sub (tys' := [(g0, .int)]) [0] rfl
  have hFc := va_free (wc := (wd_82cdd16b h1 h2 v1 v2 v3 v4 h2 g0 f5)) hD hS hA [1, 2] rfl
  refine va_calli (va_runV (As := []) (rest := []) ⟨hx, hb, hml, hown, hts⟩ (k_X10_next l dC dI h1 h2 v1 v2 v3 v4 g0 f5 ⟨by first | omega | decide, by first | omega | decide⟩ H.size) (cwV 0 hts g_X3_readUnit_1_0 rfl rfl rfl (by decide +kernel) ⟨Nat.le_of_ble_eq_true rfl, Nat.le_of_ble_eq_true rfl⟩) ⟨fun a U g mk q => by obtain ⟨q0, q1, qP, qK, qD⟩ := q; exact ⟨q0, q1, qP, va_K.moved (u := U) (U := U.calling g mk a) (Vm.Alike.refl U.vm) qK, qD⟩, va_recv hKc hPc (ci := 10) (q0 := 0) rfl rfl, fun U hU hW => ⟨rfl, by rw [hU], by rw [hU]; exact hPc, va_K.moved hW.alike hKc, hDc.weaken (fun _ _ _ _ => trivial)⟩⟩ rfl rfl hl.1 rfl (lv_room (Nat.le_of_ble_eq_true rfl)) dX3_readUnit_4 ⟨Nat.le_of_ble_eq_true rfl, Nat.le_of_ble_eq_true rfl⟩) hS (fun q _ h => hFc q h) hFc (fun ra1 u t H1 locs ht hvm hwra1 hB hz1 hk1 hS => ?_)
  obtain ⟨x2, hP1, hK1, hD1⟩ := hB
  rw [ht] at hP1
  obtain ⟨hP, hD⟩ := va_join (wr := (wd_b958b9da h0 h1 h3 v0 h3 g1 f6)) (w1 := (wd_82cdd16b h1 h2 v1 x2 v3 v4 h2 g0 f5)) hP hD [1, 2] [0, 3] rfl rfl (by decide) (by decide) hk1 hFc hP1 hD1
  generalize H1 = H at hP hS ⊢
  have hP := hP.sub (ws' := (wd_1ad0248d h0 h1 h3 v0 h1 h2 v1 x2 v3 v4 h2 g0 f5 h3 g1 f6)) [0, 2, 3, 1] rfl
  have hD := hD.sub (ws' := (wd_1ad0248d h0 h1 h3 v0 h1 h2 v1 x2 v3 v4 h2 g0 f5 h3 g1 f6)) [0, 2, 3, 1] (by decide) rfl
  have hP : va_P (dC, dI) vwCl (wd_1ad0248d h0 h1 h3 v0 h1 h2 v1 x2 v3 v4 h2 g0 f5 h3 g1 f6) H := hP
  have hD : va_D A (wd_1ad0248d h0 h1 h3 v0 h1 h2 v1 x2 v3 v4 h2 g0 f5 h3 g1 f6) := hD
  refine lv_istore_n (lv' := [(3, .int ra1), (0, .ref h0), (1, .int 5), (2, .int v7)]) hx hb dX3_readUnit_7 rfl hl (by decide) rfl (fun ls hl => ?_)
  refine lv_iload_n hx hb dX3_readUnit_8 rfl (lv_at hl 3 rfl) ?_
  refine lv_if_ne (tgt := 102) hx hb dX3_readUnit_9 (by decide) (fun c3 => ?_) (fun c3 => ?_)
  · skip
    have fc3 : ¬ (v7.toInt = 0) := fun h9 => c3 (Int32.toInt_inj.mp h9)
    refine lv_iload_n hx hb dX3_readUnit_102 rfl (lv_at hl 3 rfl) ?_
    refine lv_if_ne (tgt := 116) hx hb dX3_readUnit_103 (by decide) (fun _ => ?_) (fun c4 => by exfalso; have fc4 : v7.toInt = 0 := congrArg Int32.toInt c4; omega)
    refine lv_aload_n hx hb dX3_readUnit_116 rfl (lv_at hl 1 rfl) ?_
    refine va_get (D := (dC, dI)) (ci := 3) (v := .ref h1) (C := RX3) (T := TX3) (N := 3) hx hb hts (fun _ h => List.mem_cons_of_mem _ (List.mem_append_left _ (List.mem_append_right _ h))) hown hK hP 0 rfl rfl 0 (by decide) (hts (.fieldLink RX3 19 "LeftArguments$LawReader" "tape" "LLeftArguments$Tape;") (List.mem_cons_of_mem _ (List.mem_append_left _ (List.mem_append_left _ (List.mem_of_getElem? (i := 0) rfl))))) (fun _ h9 => h9) rfl dX3_readUnit_117 ?_
    have hPc := hP.sub (ws' := (wd_82cdd16b h1 h2 v1 x2 v3 v4 h2 g0 f5)) [1, 2] rfl
    have hDc := hD.sub (ws' := (wd_82cdd16b h1 h2 v1 x2 v3 v4 h2 g0 f5)) [1, 2] (by decide) rfl
    have hKc := hK.sub (tys' := [(g0, .int)]) [0] rfl
    have hFc := va_free (wc := (wd_82cdd16b h1 h2 v1 x2 v3 v4 h2 g0 f5)) hD hS hA [1, 2] rfl
    refine va_calli (va_runV (As := []) (rest := []) ⟨hx, hb, hml, hown, hts⟩ (k_X10_next l dC dI h1 h2 v1 x2 v3 v4 g0 f5 ⟨by first | omega | decide, by first | omega | decide⟩ H.size) (cwV 0 hts g_X3_readUnit_1_0 rfl rfl rfl (by decide +kernel) ⟨Nat.le_of_ble_eq_true rfl, Nat.le_of_ble_eq_true rfl⟩) ⟨fun a U g mk q => by obtain ⟨q0, q1, qP, qK, qD⟩ := q; exact ⟨q0, q1, qP, va_K.moved (u := U) (U := U.calling g mk a) (Vm.Alike.refl U.vm) qK, qD⟩, va_recv hKc hPc (ci := 10) (q0 := 0) rfl rfl, fun U hU hW => ⟨rfl, by rw [hU], by rw [hU]; exact hPc, va_K.moved hW.alike hKc, hDc.weaken (fun _ _ _ _ => trivial)⟩⟩ rfl rfl hl.1 rfl (lv_room (Nat.le_of_ble_eq_true rfl)) dX3_readUnit_120 ⟨Nat.le_of_ble_eq_true rfl, Nat.le_of_ble_eq_true rfl⟩) hS (fun q _ h => hFc q h) hFc (fun ra5 u t H1 locs ht hvm hwra5 hB hz1 hk1 hS => ?_)
    obtain ⟨x6, hP1, hK1, hD1⟩ := hB
    rw [ht] at hP1
    obtain ⟨hP, hD⟩ := va_join (wr := (wd_b958b9da h0 h1 h3 v0 h3 g1 f6)) (w1 := (wd_82cdd16b h1 h2 v1 x6 v3 v4 h2 g0 f5)) hP hD [1, 2] [0, 3] rfl rfl (by decide) (by decide) hk1 hFc hP1 hD1
    generalize H1 = H at hP hS ⊢
    have hP := hP.sub (ws' := (wd_1ad0248d h0 h1 h3 v0 h1 h2 v1 x6 v3 v4 h2 g0 f5 h3 g1 f6)) [0, 2, 3, 1] rfl
    have hD := hD.sub (ws' := (wd_1ad0248d h0 h1 h3 v0 h1 h2 v1 x6 v3 v4 h2 g0 f5 h3 g1 f6)) [0, 2, 3, 1] (by decide) rfl
    have hP : va_P (dC, dI) vwCl (wd_1ad0248d h0 h1 h3 v0 h1 h2 v1 x6 v3 v4 h2 g0 f5 h3 g1 f6) H := hP
    have hD : va_D A (wd_1ad0248d h0 h1 h3 v0 h1 h2 v1 x6 v3 v4 h2 g0 f5 h3 g1 f6) := hD
    have hPc := hP.sub (ws' := []) [] rfl
    have hDc := hD.sub (ws' := []) [] (by decide) rfl
    have hKc := hK.sub (tys' := []) [] rfl
    have hFc := va_free (wc := []) hD hS hA [] rfl
    refine va_calli (va_runS (As := [.int ra5]) (rest := []) ⟨hx, hb, hml, hown, hts⟩ (k_X3_comparing l dC dI ra5  H.size) (va_cwS 1 hts g_X3_readUnit_1_2 rfl rfl rfl (by decide +kernel) ⟨Nat.le_of_ble_eq_true rfl, Nat.le_of_ble_eq_true rfl⟩) ⟨fun a U g mk q => by obtain ⟨q0, q1, qP, qK, qD⟩ := q; exact ⟨q0, q1, qP, va_K.moved (u := U) (U := U.calling g mk a) (Vm.Alike.refl U.vm) qK, qD⟩, fun U hU hW => ⟨rfl, by rw [hU], by rw [hU]; exact hPc, va_K.moved hW.alike hKc, hDc.weaken (fun _ _ _ _ => trivial)⟩⟩ rfl rfl hl.1 rfl (lv_room (Nat.le_of_ble_eq_true rfl)) dX3_readUnit_123 ⟨Nat.le_of_ble_eq_true rfl, Nat.le_of_ble_eq_true rfl⟩) hS (fun q _ h => hFc q h) hFc (fun ra7 u t H1 locs ht hvm hwra7 hB hz1 hk1 hS => ?_)
    obtain ⟨hP1, hK1, hD1⟩ := hB
    rw [ht] at hP1
    obtain ⟨hP, hD⟩ := va_join (wr := (wd_1ad0248d h0 h1 h3 v0 h1 h2 v1 x6 v3 v4 h2 g0 f5 h3 g1 f6)) (w1 := []) hP hD [] [0, 1, 2, 3] rfl rfl (by decide) (by decide) hk1 hFc hP1 hD1
    generalize H1 = H at hP hS ⊢
    have hP : va_P (dC, dI) vwCl (wd_1ad0248d h0 h1 h3 v0 h1 h2 v1 x6 v3 v4 h2 g0 f5 h3 g1 f6) H := hP
    have hD : va_D A (wd_1ad0248d h0 h1 h3 v0 h1 h2 v1 x6 v3 v4 h2 g0 f5 h3 g1 f6) := hD
    obtain ⟨wa_ra7, wb_ra7⟩ := hwra7
    have wa_ra7 : -1 ≤ ra7.toInt := wa_ra7
    have wb_ra7 : ra7.toInt ≤ 8 := wb_ra7
    refine lv_istore (lv' := [(4, .int ra7), (3, .int ra1), (0, .ref h0), (1, .int 5), (2, .int v7)]) hx hb dX3_readUnit_126 hl (by decide) rfl (fun ls hl => ?_)
    refine lv_iload hx hb dX3_readUnit_128 (lv_at hl 0 rfl) ?_
    refine lv_iconst (v := (-1)) hx hb dX3_readUnit_130 (by decide) ?_
    refine lv_icmp_ne (tgt := 142) hx hb dX3_readUnit_131 (by decide) (fun c8 => ?_) (fun c8 => ?_)
    · skip
      have fc8 : ¬ (ra7.toInt = (-1)) := fun h9 => c8 (Int32.toInt_inj.mp h9)
      refine lv_aload_n hx hb dX3_readUnit_142 rfl (lv_at hl 2 rfl) ?_
      refine va_get (D := (dC, dI)) (ci := 3) (v := .ref h1) (C := RX3) (T := TX3) (N := 3) hx hb hts (fun _ h => List.mem_cons_of_mem _ (List.mem_append_left _ (List.mem_append_right _ h))) hown hK hP 0 rfl rfl 0 (by decide) (hts (.fieldLink RX3 19 "LeftArguments$LawReader" "tape" "LLeftArguments$Tape;") (List.mem_cons_of_mem _ (List.mem_append_left _ (List.mem_append_left _ (List.mem_of_getElem? (i := 0) rfl))))) (fun _ h9 => h9) rfl dX3_readUnit_143 ?_
      have hPc := hP.sub (ws' := (wd_09b0abee h1 h2 v1 x6 v3 v4)) [1] rfl
      have hDc := hD.sub (ws' := (wd_09b0abee h1 h2 v1 x6 v3 v4)) [1] (by decide) rfl
      have hKc := hK.sub (tys' := []) [] rfl
      have hFc := va_free (wc := (wd_09b0abee h1 h2 v1 x6 v3 v4)) hD hS hA [1] rfl
      refine va_callv (va_runV (As := []) (rest := []) ⟨hx, hb, hml, hown, hts⟩ (k_X10_step l dC dI h1 h2 v1 x6 v3 v4 ⟨by first | omega | decide, by first | omega | decide⟩ H.size) (cwV 0 hts g_X3_readUnit_1_3 rfl rfl rfl (by decide +kernel) ⟨Nat.le_of_ble_eq_true rfl, Nat.le_of_ble_eq_true rfl⟩) ⟨fun a U g mk q => by obtain ⟨q0, q1, qP, qK, qD⟩ := q; exact ⟨q0, q1, qP, va_K.moved (u := U) (U := U.calling g mk a) (Vm.Alike.refl U.vm) qK, qD⟩, va_recv hKc hPc (ci := 10) (q0 := 0) rfl rfl, fun U hU hW => ⟨rfl, by rw [hU], by rw [hU]; exact hPc, va_K.moved hW.alike hKc, hDc.weaken (fun _ _ _ _ => trivial)⟩⟩ rfl rfl hl.1 rfl (lv_room (Nat.le_of_ble_eq_true rfl)) dX3_readUnit_146 ⟨Nat.le_of_ble_eq_true rfl, Nat.le_of_ble_eq_true rfl⟩) hS (fun q _ h => hFc q h) hFc (fun u t H1 locs ht hvm hwra9 hB hz1 hk1 hS => ?_)
      obtain ⟨x10, hP1, hK1, hD1⟩ := hB
      rw [ht] at hP1
      obtain ⟨hP, hD⟩ := va_join (wr := (wd_6b0d8e05 h0 h1 h3 v0 h2 g0 f5 h3 g1 f6)) (w1 := (wd_09b0abee h1 h2 v1 x10 v3 v4)) hP hD [1] [0, 2, 3] rfl rfl (by decide) (by decide) hk1 hFc hP1 hD1
      generalize H1 = H at hP hS ⊢
      have hP := hP.sub (ws' := (wd_1ad0248d h0 h1 h3 v0 h1 h2 v1 x10 v3 v4 h2 g0 f5 h3 g1 f6)) [0, 3, 1, 2] rfl
      have hD := hD.sub (ws' := (wd_1ad0248d h0 h1 h3 v0 h1 h2 v1 x10 v3 v4 h2 g0 f5 h3 g1 f6)) [0, 3, 1, 2] (by decide) rfl
      have hP : va_P (dC, dI) vwCl (wd_1ad0248d h0 h1 h3 v0 h1 h2 v1 x10 v3 v4 h2 g0 f5 h3 g1 f6) H := hP
      have hD : va_D A (wd_1ad0248d h0 h1 h3 v0 h1 h2 v1 x10 v3 v4 h2 g0 f5 h3 g1 f6) := hD
      refine lv_aload_n hx hb dX3_readUnit_149 rfl (lv_at hl 2 rfl) ?_
      refine lv_iload_n hx hb dX3_readUnit_150 rfl (lv_at hl 3 rfl) ?_
      have hPc := hP.sub (ws' := (wd_1ad0248d h0 h1 h3 v0 h1 h2 v1 x10 v3 v4 h2 g0 f5 h3 g1 f6)) [0, 1, 2, 3] rfl
      have hDc := hD.sub (ws' := (wd_1ad0248d h0 h1 h3 v0 h1 h2 v1 x10 v3 v4 h2 g0 f5 h3 g1 f6)) [0, 1, 2, 3] (by decide) rfl
      have hKc := hK.sub (tys' := [(g0, .int), (g1, .int)]) [0, 1] rfl
      have hFc := va_free (wc := (wd_1ad0248d h0 h1 h3 v0 h1 h2 v1 x10 v3 v4 h2 g0 f5 h3 g1 f6)) hD hS hA [0, 1, 2, 3] rfl
      refine va_calli (va_runV (As := [.int 5]) (rest := []) ⟨hx, hb, hml, hown, hts⟩ (k_X3_readSum_1 l dC dI adK adV h0 h1 h2 h3 v0 v1 x10 v3 v4 g0 f5 g1 f6 ⟨by first | omega | decide, by first | omega | decide⟩ ⟨by first | omega | decide, by first | omega | decide⟩ H.size) (cwV 1 hts g_X3_readUnit_1_4 rfl rfl rfl (by decide +kernel) ⟨Nat.le_of_ble_eq_true rfl, Nat.le_of_ble_eq_true rfl⟩) ⟨fun a U g mk q => by obtain ⟨q0, q1, qP, qK, qD, n0, n1, n2⟩ := q; exact ⟨q0, q1, qP, va_K.moved (u := U) (U := U.calling g mk a) (Vm.Alike.refl U.vm) qK, qD, vk_R.same rfl n0, va_Z.moved (Vm.Alike.refl _) n1, vk_S.moved (Vm.Alike.refl _) n2⟩, va_recv hKc hPc (ci := 3) (q0 := 0) rfl rfl, fun U hU hW => ⟨rfl, by rw [hU], by rw [hU]; exact hPc, va_K.moved hW.alike hKc, hDc.weaken (fun _ _ _ _ => trivial), vk_R.warm hW h_vr_2, (by rw [hU]; exact (va_Z.moved hW.alike (va_Z.kept h_st_CS hS.2.1)).narrow hFc), (by rw [hU]; exact (vk_S.moved hW.alike (vk_S.kept h_st_S hS.2.1)).narrow hFc)⟩⟩ rfl rfl hl.1 rfl (lv_room (Nat.le_of_ble_eq_true rfl)) dX3_readUnit_151 ⟨Nat.le_of_ble_eq_true rfl, Nat.le_of_ble_eq_true rfl⟩) hS (fun q _ h => hFc q h) hFc (fun ra11 u t H1 locs ht hvm hwra11 hB hz1 hk1 hS => ?_)
      obtain ⟨x12, x13, x14, x15, fn16, oa_x12, ob_x12, hP1, hK1, hD1⟩ := hB
      rw [ht] at hP1
      obtain ⟨hP, hD⟩ := va_join (wr := []) (w1 := (wd_1ad0248d h0 h1 h3 x12 h1 h2 v1 x13 x14 x15 h2 g0 f5 h3 g1 fn16)) hP hD [0, 1, 2, 3] [] rfl rfl (by decide) (by decide) hk1 hFc hP1 hD1
      generalize H1 = H at hP hS ⊢
      have hP : va_P (dC, dI) vwCl (wd_1ad0248d h0 h1 h3 x12 h1 h2 v1 x13 x14 x15 h2 g0 f5 h3 g1 fn16) H := hP
      have hD : va_D A (wd_1ad0248d h0 h1 h3 x12 h1 h2 v1 x13 x14 x15 h2 g0 f5 h3 g1 fn16) := hD
      obtain ⟨wa_ra11, wb_ra11⟩ := hwra11
      have wa_ra11 : 0 ≤ ra11.toInt := wa_ra11
      have wb_ra11 : ra11.toInt ≤ 1 := wb_ra11
      refine lv_if_ne (tgt := 159) hx hb dX3_readUnit_154 (by decide) (fun c17 => ?_) (fun c17 => ?_)
      · skip
        have fc17 : ¬ (ra11.toInt = 0) := fun h9 => c17 (Int32.toInt_inj.mp h9)
        refine lv_aload_n hx hb dX3_readUnit_159 rfl (lv_at hl 2 rfl) ?_
        refine lv_iload hx hb dX3_readUnit_160 (lv_at hl 0 rfl) ?_
        refine lv_iconst (v := 0) hx hb dX3_readUnit_162 (by decide) ?_
        have hPc := hP.sub (ws' := (wd_b958b9da h0 h1 h3 x12 h3 g1 fn16)) [0, 3] rfl
        have hDc := hD.sub (ws' := (wd_b958b9da h0 h1 h3 x12 h3 g1 fn16)) [0, 3] (by decide) rfl
        have hKc := hK.sub (tys' := [(g1, .int)]) [1] rfl
        have hFc := va_free (wc := (wd_b958b9da h0 h1 h3 x12 h3 g1 fn16)) hD hS hA [0, 3] rfl
        refine va_callv (va_runV (As := [.int ra7, .int 0]) (rest := []) ⟨hx, hb, hml, hown, hts⟩ (k_X3_write l dC dI h0 h3 h1 x12 g1 fn16 ra7 0 ⟨by first | omega | decide, by first | omega | decide⟩ H.size) (cwV 2 hts g_X3_readUnit_1_5 rfl rfl rfl (by decide +kernel) ⟨Nat.le_of_ble_eq_true rfl, Nat.le_of_ble_eq_true rfl⟩) ⟨fun a U g mk q => by obtain ⟨q0, q1, qP, qK, qD⟩ := q; exact ⟨q0, q1, qP, va_K.moved (u := U) (U := U.calling g mk a) (Vm.Alike.refl U.vm) qK, qD⟩, va_recv hKc hPc (ci := 3) (q0 := 0) rfl rfl, fun U hU hW => ⟨rfl, by rw [hU], by rw [hU]; exact hPc, va_K.moved hW.alike hKc, hDc.weaken (fun _ _ _ _ => trivial)⟩⟩ rfl rfl hl.1 rfl (lv_room (Nat.le_of_ble_eq_true rfl)) dX3_readUnit_163 ⟨Nat.le_of_ble_eq_true rfl, Nat.le_of_ble_eq_true rfl⟩) hS (fun q _ h => hFc q h) hFc (fun u t H1 locs ht hvm hwra18 hB hz1 hk1 hS => ?_)
        obtain ⟨x19, fn20, oa_x19, ob_x19, hP1, hK1, hD1⟩ := hB
        rw [ht] at hP1
        obtain ⟨hP, hD⟩ := va_join (wr := (wd_82cdd16b h1 h2 v1 x13 x14 x15 h2 g0 f5)) (w1 := (wd_b958b9da h0 h1 h3 x19 h3 g1 fn20)) hP hD [0, 3] [1, 2] rfl rfl (by decide) (by decide) hk1 hFc hP1 hD1
        generalize H1 = H at hP hS ⊢
        have hP := hP.sub (ws' := (wd_1ad0248d h0 h1 h3 x19 h1 h2 v1 x13 x14 x15 h2 g0 f5 h3 g1 fn20)) [2, 0, 1, 3] rfl
        have hD := hD.sub (ws' := (wd_1ad0248d h0 h1 h3 x19 h1 h2 v1 x13 x14 x15 h2 g0 f5 h3 g1 fn20)) [2, 0, 1, 3] (by decide) rfl
        have hP : va_P (dC, dI) vwCl (wd_1ad0248d h0 h1 h3 x19 h1 h2 v1 x13 x14 x15 h2 g0 f5 h3 g1 fn20) H := hP
        have hD : va_D A (wd_1ad0248d h0 h1 h3 x19 h1 h2 v1 x13 x14 x15 h2 g0 f5 h3 g1 fn20) := hD
        refine lv_iconst (v := 1) hx hb dX3_readUnit_166 (by decide) ?_
        subst hQ
        have hP9 := hP.sub (ws' := (wd_1ad0248d h0 h1 h3 x19 h1 h2 v1 x13 x14 x15 h2 g0 f5 h3 g1 fn20)) [0, 1, 2, 3] rfl
        have hD9 := hD.sub (ws' := (wd_1ad0248d h0 h1 h3 x19 h1 h2 v1 x13 x14 x15 h2 g0 f5 h3 g1 fn20)) [0, 1, 2, 3] (by decide) rfl
        have hK9 := hK.sub (tys' := []) [] rfl
        exact W.zret (v := 1) hx hb hr rfl (fun t ht hW => ⟨⟨1, (), rfl, ⟨by first | omega | decide, by first | omega | decide⟩, x19, x13, x14, x15, fn20, by first | omega | decide, by first | omega | decide, by rw [ht]; exact hP9, va_K.moved hW.alike hK9, hD9⟩, hS.F ht⟩) hS.2.2 dX3_readUnit_167
      · skip
        have fc17 : ra11.toInt = 0 := congrArg Int32.toInt c17
        refine lv_iconst (v := 0) hx hb dX3_readUnit_157 (by decide) ?_
        subst hQ
        have hP9 := hP.sub (ws' := (wd_1ad0248d h0 h1 h3 x12 h1 h2 v1 x13 x14 x15 h2 g0 f5 h3 g1 fn16)) [0, 1, 2, 3] rfl
        have hD9 := hD.sub (ws' := (wd_1ad0248d h0 h1 h3 x12 h1 h2 v1 x13 x14 x15 h2 g0 f5 h3 g1 fn16)) [0, 1, 2, 3] (by decide) rfl
        have hK9 := hK.sub (tys' := []) [] rfl
        exact W.zret (v := 0) hx hb hr rfl (fun t ht hW => ⟨⟨0, (), rfl, ⟨by first | omega | decide, by first | omega | decide⟩, x12, x13, x14, x15, fn16, by first | omega | decide, by first | omega | decide, by rw [ht]; exact hP9, va_K.moved hW.alike hK9, hD9⟩, hS.F ht⟩) hS.2.2 dX3_readUnit_158
    · skip
      have fc8 : ra7.toInt = (-1) := congrArg Int32.toInt c8
      refine lv_aload_n hx hb dX3_readUnit_134 rfl (lv_at hl 2 rfl) ?_
      refine va_get (D := (dC, dI)) (ci := 3) (v := .ref h1) (C := RX3) (T := TX3) (N := 3) hx hb hts (fun _ h => List.mem_cons_of_mem _ (List.mem_append_left _ (List.mem_append_right _ h))) hown hK hP 0 rfl rfl 0 (by decide) (hts (.fieldLink RX3 19 "LeftArguments$LawReader" "tape" "LLeftArguments$Tape;") (List.mem_cons_of_mem _ (List.mem_append_left _ (List.mem_append_left _ (List.mem_of_getElem? (i := 0) rfl))))) (fun _ h9 => h9) rfl dX3_readUnit_135 ?_
      have hPc := hP.sub (ws' := (wd_09b0abee h1 h2 v1 x6 v3 v4)) [1] rfl
      have hDc := hD.sub (ws' := (wd_09b0abee h1 h2 v1 x6 v3 v4)) [1] (by decide) rfl
      have hKc := hK.sub (tys' := []) [] rfl
      have hFc := va_free (wc := (wd_09b0abee h1 h2 v1 x6 v3 v4)) hD hS hA [1] rfl
      refine va_calli (va_runV (As := []) (rest := []) ⟨hx, hb, hml, hown, hts⟩ (k_X10_wrongHere l dC dI h1 h2 v1 x6 v3 v4 ⟨by first | omega | decide, by first | omega | decide⟩ H.size) (cwV 0 hts g_X3_readUnit_1_6 rfl rfl rfl (by decide +kernel) ⟨Nat.le_of_ble_eq_true rfl, Nat.le_of_ble_eq_true rfl⟩) ⟨fun a U g mk q => by obtain ⟨q0, q1, qP, qK, qD⟩ := q; exact ⟨q0, q1, qP, va_K.moved (u := U) (U := U.calling g mk a) (Vm.Alike.refl U.vm) qK, qD⟩, va_recv hKc hPc (ci := 10) (q0 := 0) rfl rfl, fun U hU hW => ⟨rfl, by rw [hU], by rw [hU]; exact hPc, va_K.moved hW.alike hKc, hDc.weaken (fun _ _ _ _ => trivial)⟩⟩ rfl rfl hl.1 rfl (lv_room (Nat.le_of_ble_eq_true rfl)) dX3_readUnit_138 ⟨Nat.le_of_ble_eq_true rfl, Nat.le_of_ble_eq_true rfl⟩) hS (fun q _ h => hFc q h) hFc (fun ra21 u t H1 locs ht hvm hwra21 hB hz1 hk1 hS => ?_)
      obtain ⟨x22, hP1, hK1, hD1⟩ := hB
      rw [ht] at hP1
      obtain ⟨hP, hD⟩ := va_join (wr := (wd_6b0d8e05 h0 h1 h3 v0 h2 g0 f5 h3 g1 f6)) (w1 := (wd_09b0abee h1 h2 v1 x6 x22 v4)) hP hD [1] [0, 2, 3] rfl rfl (by decide) (by decide) hk1 hFc hP1 hD1
      generalize H1 = H at hP hS ⊢
      have hP := hP.sub (ws' := (wd_1ad0248d h0 h1 h3 v0 h1 h2 v1 x6 x22 v4 h2 g0 f5 h3 g1 f6)) [0, 3, 1, 2] rfl
      have hD := hD.sub (ws' := (wd_1ad0248d h0 h1 h3 v0 h1 h2 v1 x6 x22 v4 h2 g0 f5 h3 g1 f6)) [0, 3, 1, 2] (by decide) rfl
      have hP : va_P (dC, dI) vwCl (wd_1ad0248d h0 h1 h3 v0 h1 h2 v1 x6 x22 v4 h2 g0 f5 h3 g1 f6) H := hP
      have hD : va_D A (wd_1ad0248d h0 h1 h3 v0 h1 h2 v1 x6 x22 v4 h2 g0 f5 h3 g1 f6) := hD
      obtain ⟨wa_ra21, wb_ra21⟩ := hwra21
      have wa_ra21 : 0 ≤ ra21.toInt := wa_ra21
      have wb_ra21 : ra21.toInt ≤ 0 := wb_ra21
      subst hQ
      have hP9 := hP.sub (ws' := (wd_1ad0248d h0 h1 h3 v0 h1 h2 v1 x6 x22 v4 h2 g0 f5 h3 g1 f6)) [0, 1, 2, 3] rfl
      have hD9 := hD.sub (ws' := (wd_1ad0248d h0 h1 h3 v0 h1 h2 v1 x6 x22 v4 h2 g0 f5 h3 g1 f6)) [0, 1, 2, 3] (by decide) rfl
      have hK9 := hK.sub (tys' := []) [] rfl
      exact W.zret (v := ra21) hx hb hr (pv_nz (by omega) (by omega)) (fun t ht hW => ⟨⟨ra21, (), rfl, ⟨by first | omega | decide, by first | omega | decide⟩, v0, x6, x22, v4, f6, by first | omega | decide, by first | omega | decide, by rw [ht]; exact hP9, va_K.moved hW.alike hK9, hD9⟩, hS.F ht⟩) hS.2.2 dX3_readUnit_141
  · skip
    have fc3 : v7.toInt = 0 := congrArg Int32.toInt c3
    refine lv_iload_n hx hb dX3_readUnit_12 rfl (lv_at hl 0 rfl) ?_
    refine lv_bipush (v := 33) hx hb dX3_readUnit_13 (by decide) ?_
    refine lv_icmp_eq (tgt := 24) hx hb dX3_readUnit_15 (by decide) (fun c23 => ?_) (fun c23 => ?_)
    · skip
      have fc23 : ra1.toInt = 33 := congrArg Int32.toInt c23
      refine lv_iload_n hx hb dX3_readUnit_24 rfl (lv_at hl 2 rfl) ?_
      refine lv_bipush (v := 6) hx hb dX3_readUnit_25 (by decide) ?_
      refine lv_icmp_lt (tgt := 38) hx hb dX3_readUnit_27 (by decide) (fun _ => ?_) (fun c => absurd (by decide) c)
      refine lv_aload_n hx hb dX3_readUnit_38 rfl (lv_at hl 1 rfl) ?_
      refine va_get (D := (dC, dI)) (ci := 3) (v := .ref h1) (C := RX3) (T := TX3) (N := 3) hx hb hts (fun _ h => List.mem_cons_of_mem _ (List.mem_append_left _ (List.mem_append_right _ h))) hown hK hP 0 rfl rfl 0 (by decide) (hts (.fieldLink RX3 19 "LeftArguments$LawReader" "tape" "LLeftArguments$Tape;") (List.mem_cons_of_mem _ (List.mem_append_left _ (List.mem_append_left _ (List.mem_of_getElem? (i := 0) rfl))))) (fun _ h9 => h9) rfl dX3_readUnit_39 ?_
      have hPc := hP.sub (ws' := (wd_09b0abee h1 h2 v1 x2 v3 v4)) [1] rfl
      have hDc := hD.sub (ws' := (wd_09b0abee h1 h2 v1 x2 v3 v4)) [1] (by decide) rfl
      have hKc := hK.sub (tys' := []) [] rfl
      have hFc := va_free (wc := (wd_09b0abee h1 h2 v1 x2 v3 v4)) hD hS hA [1] rfl
      refine va_callv (va_runV (As := []) (rest := []) ⟨hx, hb, hml, hown, hts⟩ (k_X10_step l dC dI h1 h2 v1 x2 v3 v4 ⟨by first | omega | decide, by first | omega | decide⟩ H.size) (cwV 0 hts g_X3_readUnit_1_3 rfl rfl rfl (by decide +kernel) ⟨Nat.le_of_ble_eq_true rfl, Nat.le_of_ble_eq_true rfl⟩) ⟨fun a U g mk q => by obtain ⟨q0, q1, qP, qK, qD⟩ := q; exact ⟨q0, q1, qP, va_K.moved (u := U) (U := U.calling g mk a) (Vm.Alike.refl U.vm) qK, qD⟩, va_recv hKc hPc (ci := 10) (q0 := 0) rfl rfl, fun U hU hW => ⟨rfl, by rw [hU], by rw [hU]; exact hPc, va_K.moved hW.alike hKc, hDc.weaken (fun _ _ _ _ => trivial)⟩⟩ rfl rfl hl.1 rfl (lv_room (Nat.le_of_ble_eq_true rfl)) dX3_readUnit_42 ⟨Nat.le_of_ble_eq_true rfl, Nat.le_of_ble_eq_true rfl⟩) hS (fun q _ h => hFc q h) hFc (fun u t H1 locs ht hvm hwra24 hB hz1 hk1 hS => ?_)
      obtain ⟨x25, hP1, hK1, hD1⟩ := hB
      rw [ht] at hP1
      obtain ⟨hP, hD⟩ := va_join (wr := (wd_6b0d8e05 h0 h1 h3 v0 h2 g0 f5 h3 g1 f6)) (w1 := (wd_09b0abee h1 h2 v1 x25 v3 v4)) hP hD [1] [0, 2, 3] rfl rfl (by decide) (by decide) hk1 hFc hP1 hD1
      generalize H1 = H at hP hS ⊢
      have hP := hP.sub (ws' := (wd_1ad0248d h0 h1 h3 v0 h1 h2 v1 x25 v3 v4 h2 g0 f5 h3 g1 f6)) [0, 3, 1, 2] rfl
      have hD := hD.sub (ws' := (wd_1ad0248d h0 h1 h3 v0 h1 h2 v1 x25 v3 v4 h2 g0 f5 h3 g1 f6)) [0, 3, 1, 2] (by decide) rfl
      have hP : va_P (dC, dI) vwCl (wd_1ad0248d h0 h1 h3 v0 h1 h2 v1 x25 v3 v4 h2 g0 f5 h3 g1 f6) H := hP
      have hD : va_D A (wd_1ad0248d h0 h1 h3 v0 h1 h2 v1 x25 v3 v4 h2 g0 f5 h3 g1 f6) := hD
      refine lv_iload_n hx hb dX3_readUnit_45 rfl (lv_at hl 0 rfl) ?_
      refine lv_bipush (v := 40) hx hb dX3_readUnit_46 (by decide) ?_
      refine lv_icmp_ne (tgt := 80) hx hb dX3_readUnit_48 (by decide) (fun _ => ?_) (fun c26 => by exfalso; have fc26 : ra1.toInt = 40 := congrArg Int32.toInt c26; omega)
      refine lv_aload_n hx hb dX3_readUnit_80 rfl (lv_at hl 1 rfl) ?_
      refine lv_iload_n hx hb dX3_readUnit_81 rfl (lv_at hl 2 rfl) ?_
      refine lv_iconst (v := 1) hx hb dX3_readUnit_82 (by decide) ?_
      refine lv_iadd hx hb dX3_readUnit_83 ?_
      refine lv_topi (fun tv27 etv27 => ?_)
      obtain rfl : tv27 = (6 : Int32) := etv27.trans (by first | rfl | decide)
      refine lv_iconst (v := 0) hx hb dX3_readUnit_84 (by decide) ?_
      have hPc := hP.sub (ws' := (wd_1ad0248d h0 h1 h3 v0 h1 h2 v1 x25 v3 v4 h2 g0 f5 h3 g1 f6)) [0, 1, 2, 3] rfl
      have hDc := hD.sub (ws' := (wd_1ad0248d h0 h1 h3 v0 h1 h2 v1 x25 v3 v4 h2 g0 f5 h3 g1 f6)) [0, 1, 2, 3] (by decide) rfl
      have hKc := hK.sub (tys' := [(g0, .int), (g1, .int)]) [0, 1] rfl
      have hFc := va_free (wc := (wd_1ad0248d h0 h1 h3 v0 h1 h2 v1 x25 v3 v4 h2 g0 f5 h3 g1 f6)) hD hS hA [0, 1, 2, 3] rfl
      refine va_calli (va_runV (As := [.int 6, .int 0]) (rest := []) ⟨hx, hb, hml, hown, hts⟩ (k_X3_readUnit l dC dI adK adV h0 h1 h2 h3 v0 v1 x25 v3 v4 g0 f5 g1 f6 0 ⟨by first | omega | decide, by first | omega | decide⟩ ⟨by first | omega | decide, by first | omega | decide⟩ ⟨by first | omega | decide, by first | omega | decide⟩ H.size) (cwV 2 hts g_X3_readUnit_1_8 rfl rfl rfl (by decide +kernel) ⟨Nat.le_of_ble_eq_true rfl, Nat.le_of_ble_eq_true rfl⟩) ⟨fun a U g mk q => by obtain ⟨q0, q1, qP, qK, qD, n0, n1, n2⟩ := q; exact ⟨q0, q1, qP, va_K.moved (u := U) (U := U.calling g mk a) (Vm.Alike.refl U.vm) qK, qD, vk_R.same rfl n0, va_Z.moved (Vm.Alike.refl _) n1, vk_S.moved (Vm.Alike.refl _) n2⟩, va_recv hKc hPc (ci := 3) (q0 := 0) rfl rfl, fun U hU hW => ⟨rfl, by rw [hU], by rw [hU]; exact hPc, va_K.moved hW.alike hKc, hDc.weaken (fun _ _ _ _ => trivial), vk_R.warm hW h_vr_2, (by rw [hU]; exact (va_Z.moved hW.alike (va_Z.kept h_st_CS hS.2.1)).narrow hFc), (by rw [hU]; exact (vk_S.moved hW.alike (vk_S.kept h_st_S hS.2.1)).narrow hFc)⟩⟩ rfl rfl hl.1 rfl (lv_room (Nat.le_of_ble_eq_true rfl)) dX3_readUnit_85 ⟨Nat.le_of_ble_eq_true rfl, Nat.le_of_ble_eq_true rfl⟩) hS (fun q _ h => hFc q h) hFc (fun ra28 u t H1 locs ht hvm hwra28 hB hz1 hk1 hS => ?_)
      obtain ⟨x29, x30, x31, x32, fn33, oa_x29, ob_x29, hP1, hK1, hD1⟩ := hB
      rw [ht] at hP1
      obtain ⟨hP, hD⟩ := va_join (wr := []) (w1 := (wd_1ad0248d h0 h1 h3 x29 h1 h2 v1 x30 x31 x32 h2 g0 f5 h3 g1 fn33)) hP hD [0, 1, 2, 3] [] rfl rfl (by decide) (by decide) hk1 hFc hP1 hD1
      generalize H1 = H at hP hS ⊢
      have hP : va_P (dC, dI) vwCl (wd_1ad0248d h0 h1 h3 x29 h1 h2 v1 x30 x31 x32 h2 g0 f5 h3 g1 fn33) H := hP
      have hD : va_D A (wd_1ad0248d h0 h1 h3 x29 h1 h2 v1 x30 x31 x32 h2 g0 f5 h3 g1 fn33) := hD
      obtain ⟨wa_ra28, wb_ra28⟩ := hwra28
      have wa_ra28 : 0 ≤ ra28.toInt := wa_ra28
      have wb_ra28 : ra28.toInt ≤ 1 := wb_ra28
      refine lv_if_ne (tgt := 93) hx hb dX3_readUnit_88 (by decide) (fun c34 => ?_) (fun c34 => ?_)
      · skip
        have fc34 : ¬ (ra28.toInt = 0) := fun h9 => c34 (Int32.toInt_inj.mp h9)
        refine lv_aload_n hx hb dX3_readUnit_93 rfl (lv_at hl 1 rfl) ?_
        refine lv_bipush (v := 9) hx hb dX3_readUnit_94 (by decide) ?_
        refine lv_iconst (v := 0) hx hb dX3_readUnit_96 (by decide) ?_
        have hPc := hP.sub (ws' := (wd_b958b9da h0 h1 h3 x29 h3 g1 fn33)) [0, 3] rfl
        have hDc := hD.sub (ws' := (wd_b958b9da h0 h1 h3 x29 h3 g1 fn33)) [0, 3] (by decide) rfl
        have hKc := hK.sub (tys' := [(g1, .int)]) [1] rfl
        have hFc := va_free (wc := (wd_b958b9da h0 h1 h3 x29 h3 g1 fn33)) hD hS hA [0, 3] rfl
        refine va_callv (va_runV (As := [.int 9, .int 0]) (rest := []) ⟨hx, hb, hml, hown, hts⟩ (k_X3_write l dC dI h0 h3 h1 x29 g1 fn33 9 0 ⟨by first | omega | decide, by first | omega | decide⟩ H.size) (cwV 2 hts g_X3_readUnit_1_5 rfl rfl rfl (by decide +kernel) ⟨Nat.le_of_ble_eq_true rfl, Nat.le_of_ble_eq_true rfl⟩) ⟨fun a U g mk q => by obtain ⟨q0, q1, qP, qK, qD⟩ := q; exact ⟨q0, q1, qP, va_K.moved (u := U) (U := U.calling g mk a) (Vm.Alike.refl U.vm) qK, qD⟩, va_recv hKc hPc (ci := 3) (q0 := 0) rfl rfl, fun U hU hW => ⟨rfl, by rw [hU], by rw [hU]; exact hPc, va_K.moved hW.alike hKc, hDc.weaken (fun _ _ _ _ => trivial)⟩⟩ rfl rfl hl.1 rfl (lv_room (Nat.le_of_ble_eq_true rfl)) dX3_readUnit_97 ⟨Nat.le_of_ble_eq_true rfl, Nat.le_of_ble_eq_true rfl⟩) hS (fun q _ h => hFc q h) hFc (fun u t H1 locs ht hvm hwra35 hB hz1 hk1 hS => ?_)
        obtain ⟨x36, fn37, oa_x36, ob_x36, hP1, hK1, hD1⟩ := hB
        rw [ht] at hP1
        obtain ⟨hP, hD⟩ := va_join (wr := (wd_82cdd16b h1 h2 v1 x30 x31 x32 h2 g0 f5)) (w1 := (wd_b958b9da h0 h1 h3 x36 h3 g1 fn37)) hP hD [0, 3] [1, 2] rfl rfl (by decide) (by decide) hk1 hFc hP1 hD1
        generalize H1 = H at hP hS ⊢
        have hP := hP.sub (ws' := (wd_1ad0248d h0 h1 h3 x36 h1 h2 v1 x30 x31 x32 h2 g0 f5 h3 g1 fn37)) [2, 0, 1, 3] rfl
        have hD := hD.sub (ws' := (wd_1ad0248d h0 h1 h3 x36 h1 h2 v1 x30 x31 x32 h2 g0 f5 h3 g1 fn37)) [2, 0, 1, 3] (by decide) rfl
        have hP : va_P (dC, dI) vwCl (wd_1ad0248d h0 h1 h3 x36 h1 h2 v1 x30 x31 x32 h2 g0 f5 h3 g1 fn37) H := hP
        have hD : va_D A (wd_1ad0248d h0 h1 h3 x36 h1 h2 v1 x30 x31 x32 h2 g0 f5 h3 g1 fn37) := hD
        refine lv_iconst (v := 1) hx hb dX3_readUnit_100 (by decide) ?_
        subst hQ
        have hP9 := hP.sub (ws' := (wd_1ad0248d h0 h1 h3 x36 h1 h2 v1 x30 x31 x32 h2 g0 f5 h3 g1 fn37)) [0, 1, 2, 3] rfl
        have hD9 := hD.sub (ws' := (wd_1ad0248d h0 h1 h3 x36 h1 h2 v1 x30 x31 x32 h2 g0 f5 h3 g1 fn37)) [0, 1, 2, 3] (by decide) rfl
        have hK9 := hK.sub (tys' := []) [] rfl
        exact W.zret (v := 1) hx hb hr rfl (fun t ht hW => ⟨⟨1, (), rfl, ⟨by first | omega | decide, by first | omega | decide⟩, x36, x30, x31, x32, fn37, by first | omega | decide, by first | omega | decide, by rw [ht]; exact hP9, va_K.moved hW.alike hK9, hD9⟩, hS.F ht⟩) hS.2.2 dX3_readUnit_101
      · skip
        have fc34 : ra28.toInt = 0 := congrArg Int32.toInt c34
        refine lv_iconst (v := 0) hx hb dX3_readUnit_91 (by decide) ?_
        subst hQ
        have hP9 := hP.sub (ws' := (wd_1ad0248d h0 h1 h3 x29 h1 h2 v1 x30 x31 x32 h2 g0 f5 h3 g1 fn33)) [0, 1, 2, 3] rfl
        have hD9 := hD.sub (ws' := (wd_1ad0248d h0 h1 h3 x29 h1 h2 v1 x30 x31 x32 h2 g0 f5 h3 g1 fn33)) [0, 1, 2, 3] (by decide) rfl
        have hK9 := hK.sub (tys' := []) [] rfl
        exact W.zret (v := 0) hx hb hr rfl (fun t ht hW => ⟨⟨0, (), rfl, ⟨by first | omega | decide, by first | omega | decide⟩, x29, x30, x31, x32, fn33, by first | omega | decide, by first | omega | decide, by rw [ht]; exact hP9, va_K.moved hW.alike hK9, hD9⟩, hS.F ht⟩) hS.2.2 dX3_readUnit_92
    · skip
      have fc23 : ¬ (ra1.toInt = 33) := fun h9 => c23 (Int32.toInt_inj.mp h9)
      refine lv_iload_n hx hb dX3_readUnit_18 rfl (lv_at hl 0 rfl) ?_
      refine lv_bipush (v := 40) hx hb dX3_readUnit_19 (by decide) ?_
      refine lv_icmp_ne (tgt := 102) hx hb dX3_readUnit_21 (by decide) (fun c38 => ?_) (fun c38 => ?_)
      · skip
        have fc38 : ¬ (ra1.toInt = 40) := fun h9 => c38 (Int32.toInt_inj.mp h9)
        refine lv_iload_n hx hb dX3_readUnit_102 rfl (lv_at hl 3 rfl) ?_
        refine lv_if_ne (tgt := 116) hx hb dX3_readUnit_103 (by decide) (fun c39 => by exfalso; have fc39 : ¬ (v7.toInt = 0) := fun h9 => c39 (Int32.toInt_inj.mp h9); omega) (fun _ => ?_)
        refine lv_aload_n hx hb dX3_readUnit_106 rfl (lv_at hl 1 rfl) ?_
        refine lv_iload_n hx hb dX3_readUnit_107 rfl (lv_at hl 2 rfl) ?_
        have hPc := hP.sub (ws' := (wd_1ad0248d h0 h1 h3 v0 h1 h2 v1 x2 v3 v4 h2 g0 f5 h3 g1 f6)) [0, 1, 2, 3] rfl
        have hDc := hD.sub (ws' := (wd_1ad0248d h0 h1 h3 v0 h1 h2 v1 x2 v3 v4 h2 g0 f5 h3 g1 f6)) [0, 1, 2, 3] (by decide) rfl
        have hKc := hK.sub (tys' := [(g0, .int), (g1, .int)]) [0, 1] rfl
        have hFc := va_free (wc := (wd_1ad0248d h0 h1 h3 v0 h1 h2 v1 x2 v3 v4 h2 g0 f5 h3 g1 f6)) hD hS hA [0, 1, 2, 3] rfl
        refine va_calli (va_runV (As := [.int 5]) (rest := []) ⟨hx, hb, hml, hown, hts⟩ (k_X3_readSum_1 l dC dI adK adV h0 h1 h2 h3 v0 v1 x2 v3 v4 g0 f5 g1 f6 ⟨by first | omega | decide, by first | omega | decide⟩ ⟨by first | omega | decide, by first | omega | decide⟩ H.size) (cwV 1 hts g_X3_readUnit_1_4 rfl rfl rfl (by decide +kernel) ⟨Nat.le_of_ble_eq_true rfl, Nat.le_of_ble_eq_true rfl⟩) ⟨fun a U g mk q => by obtain ⟨q0, q1, qP, qK, qD, n0, n1, n2⟩ := q; exact ⟨q0, q1, qP, va_K.moved (u := U) (U := U.calling g mk a) (Vm.Alike.refl U.vm) qK, qD, vk_R.same rfl n0, va_Z.moved (Vm.Alike.refl _) n1, vk_S.moved (Vm.Alike.refl _) n2⟩, va_recv hKc hPc (ci := 3) (q0 := 0) rfl rfl, fun U hU hW => ⟨rfl, by rw [hU], by rw [hU]; exact hPc, va_K.moved hW.alike hKc, hDc.weaken (fun _ _ _ _ => trivial), vk_R.warm hW h_vr_2, (by rw [hU]; exact (va_Z.moved hW.alike (va_Z.kept h_st_CS hS.2.1)).narrow hFc), (by rw [hU]; exact (vk_S.moved hW.alike (vk_S.kept h_st_S hS.2.1)).narrow hFc)⟩⟩ rfl rfl hl.1 rfl (lv_room (Nat.le_of_ble_eq_true rfl)) dX3_readUnit_108 ⟨Nat.le_of_ble_eq_true rfl, Nat.le_of_ble_eq_true rfl⟩) hS (fun q _ h => hFc q h) hFc (fun ra40 u t H1 locs ht hvm hwra40 hB hz1 hk1 hS => ?_)
        obtain ⟨x41, x42, x43, x44, fn45, oa_x41, ob_x41, hP1, hK1, hD1⟩ := hB
        rw [ht] at hP1
        obtain ⟨hP, hD⟩ := va_join (wr := []) (w1 := (wd_1ad0248d h0 h1 h3 x41 h1 h2 v1 x42 x43 x44 h2 g0 f5 h3 g1 fn45)) hP hD [0, 1, 2, 3] [] rfl rfl (by decide) (by decide) hk1 hFc hP1 hD1
        generalize H1 = H at hP hS ⊢
        have hP : va_P (dC, dI) vwCl (wd_1ad0248d h0 h1 h3 x41 h1 h2 v1 x42 x43 x44 h2 g0 f5 h3 g1 fn45) H := hP
        have hD : va_D A (wd_1ad0248d h0 h1 h3 x41 h1 h2 v1 x42 x43 x44 h2 g0 f5 h3 g1 fn45) := hD
        obtain ⟨wa_ra40, wb_ra40⟩ := hwra40
        have wa_ra40 : 0 ≤ ra40.toInt := wa_ra40
        have wb_ra40 : ra40.toInt ≤ 1 := wb_ra40
        refine lv_if_ne (tgt := 116) hx hb dX3_readUnit_111 (by decide) (fun c46 => ?_) (fun c46 => ?_)
        · skip
          have fc46 : ¬ (ra40.toInt = 0) := fun h9 => c46 (Int32.toInt_inj.mp h9)
          refine lv_aload_n hx hb dX3_readUnit_116 rfl (lv_at hl 1 rfl) ?_
          refine va_get (D := (dC, dI)) (ci := 3) (v := .ref h1) (C := RX3) (T := TX3) (N := 3) hx hb hts (fun _ h => List.mem_cons_of_mem _ (List.mem_append_left _ (List.mem_append_right _ h))) hown hK hP 0 rfl rfl 0 (by decide) (hts (.fieldLink RX3 19 "LeftArguments$LawReader" "tape" "LLeftArguments$Tape;") (List.mem_cons_of_mem _ (List.mem_append_left _ (List.mem_append_left _ (List.mem_of_getElem? (i := 0) rfl))))) (fun _ h9 => h9) rfl dX3_readUnit_117 ?_
          have hPc := hP.sub (ws' := (wd_82cdd16b h1 h2 v1 x42 x43 x44 h2 g0 f5)) [1, 2] rfl
          have hDc := hD.sub (ws' := (wd_82cdd16b h1 h2 v1 x42 x43 x44 h2 g0 f5)) [1, 2] (by decide) rfl
          have hKc := hK.sub (tys' := [(g0, .int)]) [0] rfl
          have hFc := va_free (wc := (wd_82cdd16b h1 h2 v1 x42 x43 x44 h2 g0 f5)) hD hS hA [1, 2] rfl
          refine va_calli (va_runV (As := []) (rest := []) ⟨hx, hb, hml, hown, hts⟩ (k_X10_next l dC dI h1 h2 v1 x42 x43 x44 g0 f5 ⟨by first | omega | decide, by first | omega | decide⟩ H.size) (cwV 0 hts g_X3_readUnit_1_0 rfl rfl rfl (by decide +kernel) ⟨Nat.le_of_ble_eq_true rfl, Nat.le_of_ble_eq_true rfl⟩) ⟨fun a U g mk q => by obtain ⟨q0, q1, qP, qK, qD⟩ := q; exact ⟨q0, q1, qP, va_K.moved (u := U) (U := U.calling g mk a) (Vm.Alike.refl U.vm) qK, qD⟩, va_recv hKc hPc (ci := 10) (q0 := 0) rfl rfl, fun U hU hW => ⟨rfl, by rw [hU], by rw [hU]; exact hPc, va_K.moved hW.alike hKc, hDc.weaken (fun _ _ _ _ => trivial)⟩⟩ rfl rfl hl.1 rfl (lv_room (Nat.le_of_ble_eq_true rfl)) dX3_readUnit_120 ⟨Nat.le_of_ble_eq_true rfl, Nat.le_of_ble_eq_true rfl⟩) hS (fun q _ h => hFc q h) hFc (fun ra47 u t H1 locs ht hvm hwra47 hB hz1 hk1 hS => ?_)
          obtain ⟨x48, hP1, hK1, hD1⟩ := hB
          rw [ht] at hP1
          obtain ⟨hP, hD⟩ := va_join (wr := (wd_b958b9da h0 h1 h3 x41 h3 g1 fn45)) (w1 := (wd_82cdd16b h1 h2 v1 x48 x43 x44 h2 g0 f5)) hP hD [1, 2] [0, 3] rfl rfl (by decide) (by decide) hk1 hFc hP1 hD1
          generalize H1 = H at hP hS ⊢
          have hP := hP.sub (ws' := (wd_1ad0248d h0 h1 h3 x41 h1 h2 v1 x48 x43 x44 h2 g0 f5 h3 g1 fn45)) [0, 2, 3, 1] rfl
          have hD := hD.sub (ws' := (wd_1ad0248d h0 h1 h3 x41 h1 h2 v1 x48 x43 x44 h2 g0 f5 h3 g1 fn45)) [0, 2, 3, 1] (by decide) rfl
          have hP : va_P (dC, dI) vwCl (wd_1ad0248d h0 h1 h3 x41 h1 h2 v1 x48 x43 x44 h2 g0 f5 h3 g1 fn45) H := hP
          have hD : va_D A (wd_1ad0248d h0 h1 h3 x41 h1 h2 v1 x48 x43 x44 h2 g0 f5 h3 g1 fn45) := hD
          have hPc := hP.sub (ws' := []) [] rfl
          have hDc := hD.sub (ws' := []) [] (by decide) rfl
          have hKc := hK.sub (tys' := []) [] rfl
          have hFc := va_free (wc := []) hD hS hA [] rfl
          refine va_calli (va_runS (As := [.int ra47]) (rest := []) ⟨hx, hb, hml, hown, hts⟩ (k_X3_comparing l dC dI ra47  H.size) (va_cwS 1 hts g_X3_readUnit_1_2 rfl rfl rfl (by decide +kernel) ⟨Nat.le_of_ble_eq_true rfl, Nat.le_of_ble_eq_true rfl⟩) ⟨fun a U g mk q => by obtain ⟨q0, q1, qP, qK, qD⟩ := q; exact ⟨q0, q1, qP, va_K.moved (u := U) (U := U.calling g mk a) (Vm.Alike.refl U.vm) qK, qD⟩, fun U hU hW => ⟨rfl, by rw [hU], by rw [hU]; exact hPc, va_K.moved hW.alike hKc, hDc.weaken (fun _ _ _ _ => trivial)⟩⟩ rfl rfl hl.1 rfl (lv_room (Nat.le_of_ble_eq_true rfl)) dX3_readUnit_123 ⟨Nat.le_of_ble_eq_true rfl, Nat.le_of_ble_eq_true rfl⟩) hS (fun q _ h => hFc q h) hFc (fun ra49 u t H1 locs ht hvm hwra49 hB hz1 hk1 hS => ?_)
          obtain ⟨hP1, hK1, hD1⟩ := hB
          rw [ht] at hP1
          obtain ⟨hP, hD⟩ := va_join (wr := (wd_1ad0248d h0 h1 h3 x41 h1 h2 v1 x48 x43 x44 h2 g0 f5 h3 g1 fn45)) (w1 := []) hP hD [] [0, 1, 2, 3] rfl rfl (by decide) (by decide) hk1 hFc hP1 hD1
          generalize H1 = H at hP hS ⊢
          have hP : va_P (dC, dI) vwCl (wd_1ad0248d h0 h1 h3 x41 h1 h2 v1 x48 x43 x44 h2 g0 f5 h3 g1 fn45) H := hP
          have hD : va_D A (wd_1ad0248d h0 h1 h3 x41 h1 h2 v1 x48 x43 x44 h2 g0 f5 h3 g1 fn45) := hD
          obtain ⟨wa_ra49, wb_ra49⟩ := hwra49
          have wa_ra49 : -1 ≤ ra49.toInt := wa_ra49
          have wb_ra49 : ra49.toInt ≤ 8 := wb_ra49
          refine lv_istore (lv' := [(4, .int ra49), (3, .int ra1), (0, .ref h0), (1, .int 5), (2, .int v7)]) hx hb dX3_readUnit_126 hl (by decide) rfl (fun ls hl => ?_)
          refine lv_iload hx hb dX3_readUnit_128 (lv_at hl 0 rfl) ?_
          refine lv_iconst (v := (-1)) hx hb dX3_readUnit_130 (by decide) ?_
          refine lv_icmp_ne (tgt := 142) hx hb dX3_readUnit_131 (by decide) (fun c50 => ?_) (fun c50 => ?_)
          · skip
            have fc50 : ¬ (ra49.toInt = (-1)) := fun h9 => c50 (Int32.toInt_inj.mp h9)
            refine lv_aload_n hx hb dX3_readUnit_142 rfl (lv_at hl 2 rfl) ?_
            refine va_get (D := (dC, dI)) (ci := 3) (v := .ref h1) (C := RX3) (T := TX3) (N := 3) hx hb hts (fun _ h => List.mem_cons_of_mem _ (List.mem_append_left _ (List.mem_append_right _ h))) hown hK hP 0 rfl rfl 0 (by decide) (hts (.fieldLink RX3 19 "LeftArguments$LawReader" "tape" "LLeftArguments$Tape;") (List.mem_cons_of_mem _ (List.mem_append_left _ (List.mem_append_left _ (List.mem_of_getElem? (i := 0) rfl))))) (fun _ h9 => h9) rfl dX3_readUnit_143 ?_
            have hPc := hP.sub (ws' := (wd_09b0abee h1 h2 v1 x48 x43 x44)) [1] rfl
            have hDc := hD.sub (ws' := (wd_09b0abee h1 h2 v1 x48 x43 x44)) [1] (by decide) rfl
            have hKc := hK.sub (tys' := []) [] rfl
            have hFc := va_free (wc := (wd_09b0abee h1 h2 v1 x48 x43 x44)) hD hS hA [1] rfl
            refine va_callv (va_runV (As := []) (rest := []) ⟨hx, hb, hml, hown, hts⟩ (k_X10_step l dC dI h1 h2 v1 x48 x43 x44 ⟨by first | omega | decide, by first | omega | decide⟩ H.size) (cwV 0 hts g_X3_readUnit_1_3 rfl rfl rfl (by decide +kernel) ⟨Nat.le_of_ble_eq_true rfl, Nat.le_of_ble_eq_true rfl⟩) ⟨fun a U g mk q => by obtain ⟨q0, q1, qP, qK, qD⟩ := q; exact ⟨q0, q1, qP, va_K.moved (u := U) (U := U.calling g mk a) (Vm.Alike.refl U.vm) qK, qD⟩, va_recv hKc hPc (ci := 10) (q0 := 0) rfl rfl, fun U hU hW => ⟨rfl, by rw [hU], by rw [hU]; exact hPc, va_K.moved hW.alike hKc, hDc.weaken (fun _ _ _ _ => trivial)⟩⟩ rfl rfl hl.1 rfl (lv_room (Nat.le_of_ble_eq_true rfl)) dX3_readUnit_146 ⟨Nat.le_of_ble_eq_true rfl, Nat.le_of_ble_eq_true rfl⟩) hS (fun q _ h => hFc q h) hFc (fun u t H1 locs ht hvm hwra51 hB hz1 hk1 hS => ?_)
            obtain ⟨x52, hP1, hK1, hD1⟩ := hB
            rw [ht] at hP1
            obtain ⟨hP, hD⟩ := va_join (wr := (wd_6b0d8e05 h0 h1 h3 x41 h2 g0 f5 h3 g1 fn45)) (w1 := (wd_09b0abee h1 h2 v1 x52 x43 x44)) hP hD [1] [0, 2, 3] rfl rfl (by decide) (by decide) hk1 hFc hP1 hD1
            generalize H1 = H at hP hS ⊢
            have hP := hP.sub (ws' := (wd_1ad0248d h0 h1 h3 x41 h1 h2 v1 x52 x43 x44 h2 g0 f5 h3 g1 fn45)) [0, 3, 1, 2] rfl
            have hD := hD.sub (ws' := (wd_1ad0248d h0 h1 h3 x41 h1 h2 v1 x52 x43 x44 h2 g0 f5 h3 g1 fn45)) [0, 3, 1, 2] (by decide) rfl
            have hP : va_P (dC, dI) vwCl (wd_1ad0248d h0 h1 h3 x41 h1 h2 v1 x52 x43 x44 h2 g0 f5 h3 g1 fn45) H := hP
            have hD : va_D A (wd_1ad0248d h0 h1 h3 x41 h1 h2 v1 x52 x43 x44 h2 g0 f5 h3 g1 fn45) := hD
            refine lv_aload_n hx hb dX3_readUnit_149 rfl (lv_at hl 2 rfl) ?_
            refine lv_iload_n hx hb dX3_readUnit_150 rfl (lv_at hl 3 rfl) ?_
            have hPc := hP.sub (ws' := (wd_1ad0248d h0 h1 h3 x41 h1 h2 v1 x52 x43 x44 h2 g0 f5 h3 g1 fn45)) [0, 1, 2, 3] rfl
            have hDc := hD.sub (ws' := (wd_1ad0248d h0 h1 h3 x41 h1 h2 v1 x52 x43 x44 h2 g0 f5 h3 g1 fn45)) [0, 1, 2, 3] (by decide) rfl
            have hKc := hK.sub (tys' := [(g0, .int), (g1, .int)]) [0, 1] rfl
            have hFc := va_free (wc := (wd_1ad0248d h0 h1 h3 x41 h1 h2 v1 x52 x43 x44 h2 g0 f5 h3 g1 fn45)) hD hS hA [0, 1, 2, 3] rfl
            refine va_calli (va_runV (As := [.int 5]) (rest := []) ⟨hx, hb, hml, hown, hts⟩ (k_X3_readSum_1 l dC dI adK adV h0 h1 h2 h3 x41 v1 x52 x43 x44 g0 f5 g1 fn45 ⟨by first | omega | decide, by first | omega | decide⟩ ⟨by first | omega | decide, by first | omega | decide⟩ H.size) (cwV 1 hts g_X3_readUnit_1_4 rfl rfl rfl (by decide +kernel) ⟨Nat.le_of_ble_eq_true rfl, Nat.le_of_ble_eq_true rfl⟩) ⟨fun a U g mk q => by obtain ⟨q0, q1, qP, qK, qD, n0, n1, n2⟩ := q; exact ⟨q0, q1, qP, va_K.moved (u := U) (U := U.calling g mk a) (Vm.Alike.refl U.vm) qK, qD, vk_R.same rfl n0, va_Z.moved (Vm.Alike.refl _) n1, vk_S.moved (Vm.Alike.refl _) n2⟩, va_recv hKc hPc (ci := 3) (q0 := 0) rfl rfl, fun U hU hW => ⟨rfl, by rw [hU], by rw [hU]; exact hPc, va_K.moved hW.alike hKc, hDc.weaken (fun _ _ _ _ => trivial), vk_R.warm hW h_vr_2, (by rw [hU]; exact (va_Z.moved hW.alike (va_Z.kept h_st_CS hS.2.1)).narrow hFc), (by rw [hU]; exact (vk_S.moved hW.alike (vk_S.kept h_st_S hS.2.1)).narrow hFc)⟩⟩ rfl rfl hl.1 rfl (lv_room (Nat.le_of_ble_eq_true rfl)) dX3_readUnit_151 ⟨Nat.le_of_ble_eq_true rfl, Nat.le_of_ble_eq_true rfl⟩) hS (fun q _ h => hFc q h) hFc (fun ra53 u t H1 locs ht hvm hwra53 hB hz1 hk1 hS => ?_)
            obtain ⟨x54, x55, x56, x57, fn58, oa_x54, ob_x54, hP1, hK1, hD1⟩ := hB
            rw [ht] at hP1
            obtain ⟨hP, hD⟩ := va_join (wr := []) (w1 := (wd_1ad0248d h0 h1 h3 x54 h1 h2 v1 x55 x56 x57 h2 g0 f5 h3 g1 fn58)) hP hD [0, 1, 2, 3] [] rfl rfl (by decide) (by decide) hk1 hFc hP1 hD1
            generalize H1 = H at hP hS ⊢
            have hP : va_P (dC, dI) vwCl (wd_1ad0248d h0 h1 h3 x54 h1 h2 v1 x55 x56 x57 h2 g0 f5 h3 g1 fn58) H := hP
            have hD : va_D A (wd_1ad0248d h0 h1 h3 x54 h1 h2 v1 x55 x56 x57 h2 g0 f5 h3 g1 fn58) := hD
            obtain ⟨wa_ra53, wb_ra53⟩ := hwra53
            have wa_ra53 : 0 ≤ ra53.toInt := wa_ra53
            have wb_ra53 : ra53.toInt ≤ 1 := wb_ra53
            refine lv_if_ne (tgt := 159) hx hb dX3_readUnit_154 (by decide) (fun c59 => ?_) (fun c59 => ?_)
            · skip
              have fc59 : ¬ (ra53.toInt = 0) := fun h9 => c59 (Int32.toInt_inj.mp h9)
              refine lv_aload_n hx hb dX3_readUnit_159 rfl (lv_at hl 2 rfl) ?_
              refine lv_iload hx hb dX3_readUnit_160 (lv_at hl 0 rfl) ?_
              refine lv_iconst (v := 0) hx hb dX3_readUnit_162 (by decide) ?_
              have hPc := hP.sub (ws' := (wd_b958b9da h0 h1 h3 x54 h3 g1 fn58)) [0, 3] rfl
              have hDc := hD.sub (ws' := (wd_b958b9da h0 h1 h3 x54 h3 g1 fn58)) [0, 3] (by decide) rfl
              have hKc := hK.sub (tys' := [(g1, .int)]) [1] rfl
              have hFc := va_free (wc := (wd_b958b9da h0 h1 h3 x54 h3 g1 fn58)) hD hS hA [0, 3] rfl
              refine va_callv (va_runV (As := [.int ra49, .int 0]) (rest := []) ⟨hx, hb, hml, hown, hts⟩ (k_X3_write l dC dI h0 h3 h1 x54 g1 fn58 ra49 0 ⟨by first | omega | decide, by first | omega | decide⟩ H.size) (cwV 2 hts g_X3_readUnit_1_5 rfl rfl rfl (by decide +kernel) ⟨Nat.le_of_ble_eq_true rfl, Nat.le_of_ble_eq_true rfl⟩) ⟨fun a U g mk q => by obtain ⟨q0, q1, qP, qK, qD⟩ := q; exact ⟨q0, q1, qP, va_K.moved (u := U) (U := U.calling g mk a) (Vm.Alike.refl U.vm) qK, qD⟩, va_recv hKc hPc (ci := 3) (q0 := 0) rfl rfl, fun U hU hW => ⟨rfl, by rw [hU], by rw [hU]; exact hPc, va_K.moved hW.alike hKc, hDc.weaken (fun _ _ _ _ => trivial)⟩⟩ rfl rfl hl.1 rfl (lv_room (Nat.le_of_ble_eq_true rfl)) dX3_readUnit_163 ⟨Nat.le_of_ble_eq_true rfl, Nat.le_of_ble_eq_true rfl⟩) hS (fun q _ h => hFc q h) hFc (fun u t H1 locs ht hvm hwra60 hB hz1 hk1 hS => ?_)
              obtain ⟨x61, fn62, oa_x61, ob_x61, hP1, hK1, hD1⟩ := hB
              rw [ht] at hP1
              obtain ⟨hP, hD⟩ := va_join (wr := (wd_82cdd16b h1 h2 v1 x55 x56 x57 h2 g0 f5)) (w1 := (wd_b958b9da h0 h1 h3 x61 h3 g1 fn62)) hP hD [0, 3] [1, 2] rfl rfl (by decide) (by decide) hk1 hFc hP1 hD1
              generalize H1 = H at hP hS ⊢
              have hP := hP.sub (ws' := (wd_1ad0248d h0 h1 h3 x61 h1 h2 v1 x55 x56 x57 h2 g0 f5 h3 g1 fn62)) [2, 0, 1, 3] rfl
              have hD := hD.sub (ws' := (wd_1ad0248d h0 h1 h3 x61 h1 h2 v1 x55 x56 x57 h2 g0 f5 h3 g1 fn62)) [2, 0, 1, 3] (by decide) rfl
              have hP : va_P (dC, dI) vwCl (wd_1ad0248d h0 h1 h3 x61 h1 h2 v1 x55 x56 x57 h2 g0 f5 h3 g1 fn62) H := hP
              have hD : va_D A (wd_1ad0248d h0 h1 h3 x61 h1 h2 v1 x55 x56 x57 h2 g0 f5 h3 g1 fn62) := hD
              refine lv_iconst (v := 1) hx hb dX3_readUnit_166 (by decide) ?_
              subst hQ
              have hP9 := hP.sub (ws' := (wd_1ad0248d h0 h1 h3 x61 h1 h2 v1 x55 x56 x57 h2 g0 f5 h3 g1 fn62)) [0, 1, 2, 3] rfl
              have hD9 := hD.sub (ws' := (wd_1ad0248d h0 h1 h3 x61 h1 h2 v1 x55 x56 x57 h2 g0 f5 h3 g1 fn62)) [0, 1, 2, 3] (by decide) rfl
              have hK9 := hK.sub (tys' := []) [] rfl
              exact W.zret (v := 1) hx hb hr rfl (fun t ht hW => ⟨⟨1, (), rfl, ⟨by first | omega | decide, by first | omega | decide⟩, x61, x55, x56, x57, fn62, by first | omega | decide, by first | omega | decide, by rw [ht]; exact hP9, va_K.moved hW.alike hK9, hD9⟩, hS.F ht⟩) hS.2.2 dX3_readUnit_167
            · skip
              have fc59 : ra53.toInt = 0 := congrArg Int32.toInt c59
              refine lv_iconst (v := 0) hx hb dX3_readUnit_157 (by decide) ?_
              subst hQ
              have hP9 := hP.sub (ws' := (wd_1ad0248d h0 h1 h3 x54 h1 h2 v1 x55 x56 x57 h2 g0 f5 h3 g1 fn58)) [0, 1, 2, 3] rfl
              have hD9 := hD.sub (ws' := (wd_1ad0248d h0 h1 h3 x54 h1 h2 v1 x55 x56 x57 h2 g0 f5 h3 g1 fn58)) [0, 1, 2, 3] (by decide) rfl
              have hK9 := hK.sub (tys' := []) [] rfl
              exact W.zret (v := 0) hx hb hr rfl (fun t ht hW => ⟨⟨0, (), rfl, ⟨by first | omega | decide, by first | omega | decide⟩, x54, x55, x56, x57, fn58, by first | omega | decide, by first | omega | decide, by rw [ht]; exact hP9, va_K.moved hW.alike hK9, hD9⟩, hS.F ht⟩) hS.2.2 dX3_readUnit_158
          · skip
            have fc50 : ra49.toInt = (-1) := congrArg Int32.toInt c50
            refine lv_aload_n hx hb dX3_readUnit_134 rfl (lv_at hl 2 rfl) ?_
            refine va_get (D := (dC, dI)) (ci := 3) (v := .ref h1) (C := RX3) (T := TX3) (N := 3) hx hb hts (fun _ h => List.mem_cons_of_mem _ (List.mem_append_left _ (List.mem_append_right _ h))) hown hK hP 0 rfl rfl 0 (by decide) (hts (.fieldLink RX3 19 "LeftArguments$LawReader" "tape" "LLeftArguments$Tape;") (List.mem_cons_of_mem _ (List.mem_append_left _ (List.mem_append_left _ (List.mem_of_getElem? (i := 0) rfl))))) (fun _ h9 => h9) rfl dX3_readUnit_135 ?_
            have hPc := hP.sub (ws' := (wd_09b0abee h1 h2 v1 x48 x43 x44)) [1] rfl
            have hDc := hD.sub (ws' := (wd_09b0abee h1 h2 v1 x48 x43 x44)) [1] (by decide) rfl
            have hKc := hK.sub (tys' := []) [] rfl
            have hFc := va_free (wc := (wd_09b0abee h1 h2 v1 x48 x43 x44)) hD hS hA [1] rfl
            refine va_calli (va_runV (As := []) (rest := []) ⟨hx, hb, hml, hown, hts⟩ (k_X10_wrongHere l dC dI h1 h2 v1 x48 x43 x44 ⟨by first | omega | decide, by first | omega | decide⟩ H.size) (cwV 0 hts g_X3_readUnit_1_6 rfl rfl rfl (by decide +kernel) ⟨Nat.le_of_ble_eq_true rfl, Nat.le_of_ble_eq_true rfl⟩) ⟨fun a U g mk q => by obtain ⟨q0, q1, qP, qK, qD⟩ := q; exact ⟨q0, q1, qP, va_K.moved (u := U) (U := U.calling g mk a) (Vm.Alike.refl U.vm) qK, qD⟩, va_recv hKc hPc (ci := 10) (q0 := 0) rfl rfl, fun U hU hW => ⟨rfl, by rw [hU], by rw [hU]; exact hPc, va_K.moved hW.alike hKc, hDc.weaken (fun _ _ _ _ => trivial)⟩⟩ rfl rfl hl.1 rfl (lv_room (Nat.le_of_ble_eq_true rfl)) dX3_readUnit_138 ⟨Nat.le_of_ble_eq_true rfl, Nat.le_of_ble_eq_true rfl⟩) hS (fun q _ h => hFc q h) hFc (fun ra63 u t H1 locs ht hvm hwra63 hB hz1 hk1 hS => ?_)
            obtain ⟨x64, hP1, hK1, hD1⟩ := hB
            rw [ht] at hP1
            obtain ⟨hP, hD⟩ := va_join (wr := (wd_6b0d8e05 h0 h1 h3 x41 h2 g0 f5 h3 g1 fn45)) (w1 := (wd_09b0abee h1 h2 v1 x48 x64 x44)) hP hD [1] [0, 2, 3] rfl rfl (by decide) (by decide) hk1 hFc hP1 hD1
            generalize H1 = H at hP hS ⊢
            have hP := hP.sub (ws' := (wd_1ad0248d h0 h1 h3 x41 h1 h2 v1 x48 x64 x44 h2 g0 f5 h3 g1 fn45)) [0, 3, 1, 2] rfl
            have hD := hD.sub (ws' := (wd_1ad0248d h0 h1 h3 x41 h1 h2 v1 x48 x64 x44 h2 g0 f5 h3 g1 fn45)) [0, 3, 1, 2] (by decide) rfl
            have hP : va_P (dC, dI) vwCl (wd_1ad0248d h0 h1 h3 x41 h1 h2 v1 x48 x64 x44 h2 g0 f5 h3 g1 fn45) H := hP
            have hD : va_D A (wd_1ad0248d h0 h1 h3 x41 h1 h2 v1 x48 x64 x44 h2 g0 f5 h3 g1 fn45) := hD
            obtain ⟨wa_ra63, wb_ra63⟩ := hwra63
            have wa_ra63 : 0 ≤ ra63.toInt := wa_ra63
            have wb_ra63 : ra63.toInt ≤ 0 := wb_ra63
            subst hQ
            have hP9 := hP.sub (ws' := (wd_1ad0248d h0 h1 h3 x41 h1 h2 v1 x48 x64 x44 h2 g0 f5 h3 g1 fn45)) [0, 1, 2, 3] rfl
            have hD9 := hD.sub (ws' := (wd_1ad0248d h0 h1 h3 x41 h1 h2 v1 x48 x64 x44 h2 g0 f5 h3 g1 fn45)) [0, 1, 2, 3] (by decide) rfl
            have hK9 := hK.sub (tys' := []) [] rfl
            exact W.zret (v := ra63) hx hb hr (pv_nz (by omega) (by omega)) (fun t ht hW => ⟨⟨ra63, (), rfl, ⟨by first | omega | decide, by first | omega | decide⟩, x41, x48, x64, x44, fn45, by first | omega | decide, by first | omega | decide, by rw [ht]; exact hP9, va_K.moved hW.alike hK9, hD9⟩, hS.F ht⟩) hS.2.2 dX3_readUnit_141
        · skip
          have fc46 : ra40.toInt = 0 := congrArg Int32.toInt c46
          refine lv_iconst (v := 0) hx hb dX3_readUnit_114 (by decide) ?_
          subst hQ
          have hP9 := hP.sub (ws' := (wd_1ad0248d h0 h1 h3 x41 h1 h2 v1 x42 x43 x44 h2 g0 f5 h3 g1 fn45)) [0, 1, 2, 3] rfl
          have hD9 := hD.sub (ws' := (wd_1ad0248d h0 h1 h3 x41 h1 h2 v1 x42 x43 x44 h2 g0 f5 h3 g1 fn45)) [0, 1, 2, 3] (by decide) rfl
          have hK9 := hK.sub (tys' := []) [] rfl
          exact W.zret (v := 0) hx hb hr rfl (fun t ht hW => ⟨⟨0, (), rfl, ⟨by first | omega | decide, by first | omega | decide⟩, x41, x42, x43, x44, fn45, by first | omega | decide, by first | omega | decide, by rw [ht]; exact hP9, va_K.moved hW.alike hK9, hD9⟩, hS.F ht⟩) hS.2.2 dX3_readUnit_115
      · skip
        have fc38 : ra1.toInt = 40 := congrArg Int32.toInt c38
        refine lv_iload_n hx hb dX3_readUnit_24 rfl (lv_at hl 2 rfl) ?_
        refine lv_bipush (v := 6) hx hb dX3_readUnit_25 (by decide) ?_
        refine lv_icmp_lt (tgt := 38) hx hb dX3_readUnit_27 (by decide) (fun _ => ?_) (fun c => absurd (by decide) c)
        refine lv_aload_n hx hb dX3_readUnit_38 rfl (lv_at hl 1 rfl) ?_
        refine va_get (D := (dC, dI)) (ci := 3) (v := .ref h1) (C := RX3) (T := TX3) (N := 3) hx hb hts (fun _ h => List.mem_cons_of_mem _ (List.mem_append_left _ (List.mem_append_right _ h))) hown hK hP 0 rfl rfl 0 (by decide) (hts (.fieldLink RX3 19 "LeftArguments$LawReader" "tape" "LLeftArguments$Tape;") (List.mem_cons_of_mem _ (List.mem_append_left _ (List.mem_append_left _ (List.mem_of_getElem? (i := 0) rfl))))) (fun _ h9 => h9) rfl dX3_readUnit_39 ?_
        have hPc := hP.sub (ws' := (wd_09b0abee h1 h2 v1 x2 v3 v4)) [1] rfl
        have hDc := hD.sub (ws' := (wd_09b0abee h1 h2 v1 x2 v3 v4)) [1] (by decide) rfl
        have hKc := hK.sub (tys' := []) [] rfl
        have hFc := va_free (wc := (wd_09b0abee h1 h2 v1 x2 v3 v4)) hD hS hA [1] rfl
        refine va_callv (va_runV (As := []) (rest := []) ⟨hx, hb, hml, hown, hts⟩ (k_X10_step l dC dI h1 h2 v1 x2 v3 v4 ⟨by first | omega | decide, by first | omega | decide⟩ H.size) (cwV 0 hts g_X3_readUnit_1_3 rfl rfl rfl (by decide +kernel) ⟨Nat.le_of_ble_eq_true rfl, Nat.le_of_ble_eq_true rfl⟩) ⟨fun a U g mk q => by obtain ⟨q0, q1, qP, qK, qD⟩ := q; exact ⟨q0, q1, qP, va_K.moved (u := U) (U := U.calling g mk a) (Vm.Alike.refl U.vm) qK, qD⟩, va_recv hKc hPc (ci := 10) (q0 := 0) rfl rfl, fun U hU hW => ⟨rfl, by rw [hU], by rw [hU]; exact hPc, va_K.moved hW.alike hKc, hDc.weaken (fun _ _ _ _ => trivial)⟩⟩ rfl rfl hl.1 rfl (lv_room (Nat.le_of_ble_eq_true rfl)) dX3_readUnit_42 ⟨Nat.le_of_ble_eq_true rfl, Nat.le_of_ble_eq_true rfl⟩) hS (fun q _ h => hFc q h) hFc (fun u t H1 locs ht hvm hwra65 hB hz1 hk1 hS => ?_)
        obtain ⟨x66, hP1, hK1, hD1⟩ := hB
        rw [ht] at hP1
        obtain ⟨hP, hD⟩ := va_join (wr := (wd_6b0d8e05 h0 h1 h3 v0 h2 g0 f5 h3 g1 f6)) (w1 := (wd_09b0abee h1 h2 v1 x66 v3 v4)) hP hD [1] [0, 2, 3] rfl rfl (by decide) (by decide) hk1 hFc hP1 hD1
        generalize H1 = H at hP hS ⊢
        have hP := hP.sub (ws' := (wd_1ad0248d h0 h1 h3 v0 h1 h2 v1 x66 v3 v4 h2 g0 f5 h3 g1 f6)) [0, 3, 1, 2] rfl
        have hD := hD.sub (ws' := (wd_1ad0248d h0 h1 h3 v0 h1 h2 v1 x66 v3 v4 h2 g0 f5 h3 g1 f6)) [0, 3, 1, 2] (by decide) rfl
        have hP : va_P (dC, dI) vwCl (wd_1ad0248d h0 h1 h3 v0 h1 h2 v1 x66 v3 v4 h2 g0 f5 h3 g1 f6) H := hP
        have hD : va_D A (wd_1ad0248d h0 h1 h3 v0 h1 h2 v1 x66 v3 v4 h2 g0 f5 h3 g1 f6) := hD
        refine lv_iload_n hx hb dX3_readUnit_45 rfl (lv_at hl 0 rfl) ?_
        refine lv_bipush (v := 40) hx hb dX3_readUnit_46 (by decide) ?_
        refine lv_icmp_ne (tgt := 80) hx hb dX3_readUnit_48 (by decide) (fun c67 => by exfalso; have fc67 : ¬ (ra1.toInt = 40) := fun h9 => c67 (Int32.toInt_inj.mp h9); omega) (fun _ => ?_)
        refine lv_aload_n hx hb dX3_readUnit_51 rfl (lv_at hl 1 rfl) ?_
        refine lv_iload_n hx hb dX3_readUnit_52 rfl (lv_at hl 2 rfl) ?_
        refine lv_iconst (v := 1) hx hb dX3_readUnit_53 (by decide) ?_
        refine lv_iadd hx hb dX3_readUnit_54 ?_
        refine lv_topi (fun tv68 etv68 => ?_)
        obtain rfl : tv68 = (6 : Int32) := etv68.trans (by first | rfl | decide)
        refine lv_iconst (v := 0) hx hb dX3_readUnit_55 (by decide) ?_
        have hPc := hP.sub (ws' := (wd_1ad0248d h0 h1 h3 v0 h1 h2 v1 x66 v3 v4 h2 g0 f5 h3 g1 f6)) [0, 1, 2, 3] rfl
        have hDc := hD.sub (ws' := (wd_1ad0248d h0 h1 h3 v0 h1 h2 v1 x66 v3 v4 h2 g0 f5 h3 g1 f6)) [0, 1, 2, 3] (by decide) rfl
        have hKc := hK.sub (tys' := [(g0, .int), (g1, .int)]) [0, 1] rfl
        have hFc := va_free (wc := (wd_1ad0248d h0 h1 h3 v0 h1 h2 v1 x66 v3 v4 h2 g0 f5 h3 g1 f6)) hD hS hA [0, 1, 2, 3] rfl
        refine va_calli (va_runV (As := [.int 6, .int 0]) (rest := []) ⟨hx, hb, hml, hown, hts⟩ (k_X3_readCondition l dC dI adK adV h0 h1 h2 h3 v0 v1 x66 v3 v4 g0 f5 g1 f6 0 ⟨by first | omega | decide, by first | omega | decide⟩ ⟨by first | omega | decide, by first | omega | decide⟩ ⟨by first | omega | decide, by first | omega | decide⟩ H.size) (cwV 2 hts g_X3_readUnit_1_18 rfl rfl rfl (by decide +kernel) ⟨Nat.le_of_ble_eq_true rfl, Nat.le_of_ble_eq_true rfl⟩) ⟨fun a U g mk q => by obtain ⟨q0, q1, qP, qK, qD, n0, n1, n2⟩ := q; exact ⟨q0, q1, qP, va_K.moved (u := U) (U := U.calling g mk a) (Vm.Alike.refl U.vm) qK, qD, vk_R.same rfl n0, va_Z.moved (Vm.Alike.refl _) n1, vk_S.moved (Vm.Alike.refl _) n2⟩, va_recv hKc hPc (ci := 3) (q0 := 0) rfl rfl, fun U hU hW => ⟨rfl, by rw [hU], by rw [hU]; exact hPc, va_K.moved hW.alike hKc, hDc.weaken (fun _ _ _ _ => trivial), vk_R.warm hW h_vr_2, (by rw [hU]; exact (va_Z.moved hW.alike (va_Z.kept h_st_CS hS.2.1)).narrow hFc), (by rw [hU]; exact (vk_S.moved hW.alike (vk_S.kept h_st_S hS.2.1)).narrow hFc)⟩⟩ rfl rfl hl.1 rfl (lv_room (Nat.le_of_ble_eq_true rfl)) dX3_readUnit_56 ⟨Nat.le_of_ble_eq_true rfl, Nat.le_of_ble_eq_true rfl⟩) hS (fun q _ h => hFc q h) hFc (fun ra69 u t H1 locs ht hvm hwra69 hB hz1 hk1 hS => ?_)
        obtain ⟨x70, x71, x72, x73, fn74, oa_x70, ob_x70, hP1, hK1, hD1⟩ := hB
        rw [ht] at hP1
        obtain ⟨hP, hD⟩ := va_join (wr := []) (w1 := (wd_1ad0248d h0 h1 h3 x70 h1 h2 v1 x71 x72 x73 h2 g0 f5 h3 g1 fn74)) hP hD [0, 1, 2, 3] [] rfl rfl (by decide) (by decide) hk1 hFc hP1 hD1
        generalize H1 = H at hP hS ⊢
        have hP : va_P (dC, dI) vwCl (wd_1ad0248d h0 h1 h3 x70 h1 h2 v1 x71 x72 x73 h2 g0 f5 h3 g1 fn74) H := hP
        have hD : va_D A (wd_1ad0248d h0 h1 h3 x70 h1 h2 v1 x71 x72 x73 h2 g0 f5 h3 g1 fn74) := hD
        obtain ⟨wa_ra69, wb_ra69⟩ := hwra69
        have wa_ra69 : 0 ≤ ra69.toInt := wa_ra69
        have wb_ra69 : ra69.toInt ≤ 1 := wb_ra69
        have hJ78 : ∀ (x75 : Int32) (x76 : Int32) (x77 : Int32) (H : Heap) (locs : List Loc) (ls : Array Slot), 0 ≤ x75.toInt → x75.toInt ≤ 1 → va_P (dC, dI) vwCl (wd_1ad0248d h0 h1 h3 x70 h1 h2 v1 x76 x77 x73 h2 g0 f5 h3 g1 fn74) H → va_D A (wd_1ad0248d h0 h1 h3 x70 h1 h2 v1 x76 x77 x73 h2 g0 f5 h3 g1 fn74) → va_S A s.heap H locs → lv_has ls 5 [(3, .int ra1), (0, .ref h0), (1, .int 5), (2, .int v7)] → W p l e ({ frames := 10, cells := 0, slots := 0, locals := 230 }) s m ([.ref h0, .int 5, .int v7] : List Value).toArray below meth c H locs 0 0 Q (F0 m 79 ls [.int x75]) := by
          intro x75 x76 x77 H locs ls qa_x75 qb_x75 hP hD hS hl
          subst hQ
          have hP9 := hP.sub (ws' := (wd_1ad0248d h0 h1 h3 x70 h1 h2 v1 x76 x77 x73 h2 g0 f5 h3 g1 fn74)) [0, 1, 2, 3] rfl
          have hD9 := hD.sub (ws' := (wd_1ad0248d h0 h1 h3 x70 h1 h2 v1 x76 x77 x73 h2 g0 f5 h3 g1 fn74)) [0, 1, 2, 3] (by decide) rfl
          have hK9 := hK.sub (tys' := []) [] rfl
          exact W.zret (v := x75) hx hb hr (pv_nz (by omega) (by omega)) (fun t ht hW => ⟨⟨x75, (), rfl, ⟨by first | omega | decide, by first | omega | decide⟩, x70, x76, x77, x73, fn74, by first | omega | decide, by first | omega | decide, by rw [ht]; exact hP9, va_K.moved hW.alike hK9, hD9⟩, hS.F ht⟩) hS.2.2 dX3_readUnit_79
        refine lv_if_eq (tgt := 78) hx hb dX3_readUnit_59 (by decide) (fun c79 => ?_) (fun c79 => ?_)
        · skip
          have fc79 : ra69.toInt = 0 := congrArg Int32.toInt c79
          refine lv_iconst (v := 0) hx hb dX3_readUnit_78 (by decide) ?_
          exact hJ78 0 x71 x72 H locs ls (by first | omega | decide) (by first | omega | decide) hP hD hS (lv_sub hl [0, 1, 2, 3] rfl)
        · skip
          have fc79 : ¬ (ra69.toInt = 0) := fun h9 => c79 (Int32.toInt_inj.mp h9)
          refine lv_aload_n hx hb dX3_readUnit_62 rfl (lv_at hl 1 rfl) ?_
          refine va_get (D := (dC, dI)) (ci := 3) (v := .ref h1) (C := RX3) (T := TX3) (N := 3) hx hb hts (fun _ h => List.mem_cons_of_mem _ (List.mem_append_left _ (List.mem_append_right _ h))) hown hK hP 0 rfl rfl 0 (by decide) (hts (.fieldLink RX3 19 "LeftArguments$LawReader" "tape" "LLeftArguments$Tape;") (List.mem_cons_of_mem _ (List.mem_append_left _ (List.mem_append_left _ (List.mem_of_getElem? (i := 0) rfl))))) (fun _ h9 => h9) rfl dX3_readUnit_63 ?_
          refine lv_bipush (v := 41) hx hb dX3_readUnit_66 (by decide) ?_
          have hPc := hP.sub (ws' := (wd_82cdd16b h1 h2 v1 x71 x72 x73 h2 g0 f5)) [1, 2] rfl
          have hDc := hD.sub (ws' := (wd_82cdd16b h1 h2 v1 x71 x72 x73 h2 g0 f5)) [1, 2] (by decide) rfl
          have hKc := hK.sub (tys' := [(g0, .int)]) [0] rfl
          have hFc := va_free (wc := (wd_82cdd16b h1 h2 v1 x71 x72 x73 h2 g0 f5)) hD hS hA [1, 2] rfl
          refine va_calli (va_runV (As := [.int 41]) (rest := []) ⟨hx, hb, hml, hown, hts⟩ (k_X10_take l dC dI h1 h2 v1 x71 x72 x73 g0 f5 41 ⟨by first | omega | decide, by first | omega | decide⟩ H.size) (cwV 1 hts g_X3_readUnit_1_19 rfl rfl rfl (by decide +kernel) ⟨Nat.le_of_ble_eq_true rfl, Nat.le_of_ble_eq_true rfl⟩) ⟨fun a U g mk q => by obtain ⟨q0, q1, qP, qK, qD⟩ := q; exact ⟨q0, q1, qP, va_K.moved (u := U) (U := U.calling g mk a) (Vm.Alike.refl U.vm) qK, qD⟩, va_recv hKc hPc (ci := 10) (q0 := 0) rfl rfl, fun U hU hW => ⟨rfl, by rw [hU], by rw [hU]; exact hPc, va_K.moved hW.alike hKc, hDc.weaken (fun _ _ _ _ => trivial)⟩⟩ rfl rfl hl.1 rfl (lv_room (Nat.le_of_ble_eq_true rfl)) dX3_readUnit_68 ⟨Nat.le_of_ble_eq_true rfl, Nat.le_of_ble_eq_true rfl⟩) hS (fun q _ h => hFc q h) hFc (fun ra80 u t H1 locs ht hvm hwra80 hB hz1 hk1 hS => ?_)
          obtain ⟨x81, x82, hP1, hK1, hD1⟩ := hB
          rw [ht] at hP1
          obtain ⟨hP, hD⟩ := va_join (wr := (wd_b958b9da h0 h1 h3 x70 h3 g1 fn74)) (w1 := (wd_82cdd16b h1 h2 v1 x81 x82 x73 h2 g0 f5)) hP hD [1, 2] [0, 3] rfl rfl (by decide) (by decide) hk1 hFc hP1 hD1
          generalize H1 = H at hP hS ⊢
          have hP := hP.sub (ws' := (wd_1ad0248d h0 h1 h3 x70 h1 h2 v1 x81 x82 x73 h2 g0 f5 h3 g1 fn74)) [0, 2, 3, 1] rfl
          have hD := hD.sub (ws' := (wd_1ad0248d h0 h1 h3 x70 h1 h2 v1 x81 x82 x73 h2 g0 f5 h3 g1 fn74)) [0, 2, 3, 1] (by decide) rfl
          have hP : va_P (dC, dI) vwCl (wd_1ad0248d h0 h1 h3 x70 h1 h2 v1 x81 x82 x73 h2 g0 f5 h3 g1 fn74) H := hP
          have hD : va_D A (wd_1ad0248d h0 h1 h3 x70 h1 h2 v1 x81 x82 x73 h2 g0 f5 h3 g1 fn74) := hD
          obtain ⟨wa_ra80, wb_ra80⟩ := hwra80
          have wa_ra80 : 0 ≤ ra80.toInt := wa_ra80
          have wb_ra80 : ra80.toInt ≤ 1 := wb_ra80
          refine lv_if_eq (tgt := 78) hx hb dX3_readUnit_71 (by decide) (fun c83 => ?_) (fun c83 => ?_)
          · skip
            have fc83 : ra80.toInt = 0 := congrArg Int32.toInt c83
            refine lv_iconst (v := 0) hx hb dX3_readUnit_78 (by decide) ?_
            exact hJ78 0 x81 x82 H locs ls (by first | omega | decide) (by first | omega | decide) hP hD hS (lv_sub hl [0, 1, 2, 3] rfl)
          · skip
            have fc83 : ¬ (ra80.toInt = 0) := fun h9 => c83 (Int32.toInt_inj.mp h9)
            refine lv_iconst (v := 1) hx hb dX3_readUnit_74 (by decide) ?_
            refine lv_goto (tgt := 79) hx hb dX3_readUnit_75 (by decide) ?_
            exact hJ78 1 x81 x82 H locs ls (by first | omega | decide) (by first | omega | decide) hP hD hS (lv_sub hl [0, 1, 2, 3] rfl)
def q_X3_readTruth_1 : List Cond := .code yX3_readTruth cX3_readTruth 4 (some .boolean) :: (([.code yX3_readUnit cX3_readUnit 5 (some .boolean), .fieldLink RX3 19 "LeftArguments$LawReader" "tape" "LLeftArguments$Tape;", .code yX10_next cX10_next 1 (some .int), .fieldLink RX10 19 "LeftArguments$Tape" "at" "I", .fieldLink RX10 15 "LeftArguments$Tape" "used" "I", .fieldLink RX10 9 "LeftArguments$Tape" "bytes" "[I", .initialized RX10, .instanceMethod yX10_next, .selects RX10 yX10_next yX10_next, .methodLink RX3 48 yX10_next, .code yX3_comparing cX3_comparing 1 (some .int), .initialized RX3, .static yX3_comparing, .methodLink RX3 62 yX3_comparing, .code yX10_step cX10_step 1 none, .instanceMethod yX10_step, .selects RX10 yX10_step yX10_step, .methodLink RX3 77 yX10_step, .code yX3_readSum cX3_readSum 4 (some .boolean), .code yX3_readTerm cX3_readTerm 4 (some .boolean), .code yX3_readAtom cX3_readAtom 4 (some .boolean), .code yX10_isDigit cX10_isDigit 1 (some .boolean), .static yX10_isDigit, .methodLink RX3 92 yX10_isDigit, .code yX3_write cX3_write 3 none, .fieldLink RX3 15 "LeftArguments$LawReader" "used" "I", .fieldLink RX3 11 "LeftArguments$LawReader" "code" "[I", .instanceMethod yX3_write, .selects RX3 yX3_write yX3_write, .methodLink RX3 66 yX3_write, .code yX10_wrongHere cX10_wrongHere 1 (some .boolean), .fieldLink RX10 22 "LeftArguments$Tape" "wrongAt" "I", .instanceMethod yX10_wrongHere, .selects RX10 yX10_wrongHere yX10_wrongHere, .methodLink RX3 83 yX10_wrongHere, .code yJ0_indexOf_0f7a4 cJ0_indexOf_0f7a4 2 (some .int), .code yJ0_indexOf_7cf53 cJ0_indexOf_7cf53 3 (some .int), .code yJ0_isLatin1_aae02 cJ0_isLatin1_aae02 1 (some .boolean), .fieldLink RJ0 38 "java/lang/String" "COMPACT_STRINGS" "Z", .fieldLink RJ0 15 "java/lang/String" "coder" "B", .initialized RJ0, .instanceMethod yJ0_isLatin1_aae02, .selects RJ0 yJ0_isLatin1_aae02 yJ0_isLatin1_aae02, .methodLink RJ0 492 yJ0_isLatin1_aae02, .fieldLink RJ0 9 "java/lang/String" "value" "[B", .code yJ0_length_8abf5 cJ0_length_8abf5 1 (some .int), .code yJ0_coder_7d493 cJ0_coder_7d493 1 (some .byte), .instanceMethod yJ0_coder_7d493, .selects RJ0 yJ0_coder_7d493 yJ0_coder_7d493, .methodLink RJ0 335 yJ0_coder_7d493, .instanceMethod yJ0_length_8abf5, .selects RJ0 yJ0_length_8abf5 yJ0_length_8abf5, .methodLink RJ0 505 yJ0_length_8abf5, .code yJ1_indexOf_4cfef cJ1_indexOf_4cfef 4 (some .int), .code yJ1_canEncode_9a6ad cJ1_canEncode_9a6ad 1 (some .boolean), .initialized RJ1, .static yJ1_canEncode_9a6ad, .methodLink RJ1 88 yJ1_canEncode_9a6ad, .methodLink RJ1 92 Lib.Math.max.name, .static Lib.Math.max.name, .initialized "java/lang/Math", .code Lib.Math.max.name Lib.Math.max.code 2 (some .int), .methodLink RJ1 38 Lib.Math.min.name, .static Lib.Math.min.name, .code Lib.Math.min.name Lib.Math.min.code 2 (some .int), .code yJ1_indexOfChar_4cfef cJ1_indexOfChar_4cfef 6 (some .int), .static yJ1_indexOfChar_4cfef, .methodLink RJ1 95 yJ1_indexOfChar_4cfef, .static yJ1_indexOf_4cfef, .methodLink RJ0 637 yJ1_indexOf_4cfef, .instanceMethod yJ0_indexOf_7cf53, .selects RJ0 yJ0_indexOf_7cf53 yJ0_indexOf_7cf53, .methodLink RJ0 633 yJ0_indexOf_7cf53, .instanceMethod yJ0_indexOf_0f7a4, .selects RJ0 yJ0_indexOf_0f7a4 yJ0_indexOf_0f7a4, .methodLink RX3 103 yJ0_indexOf_0f7a4, .code yX10_takeNumber cX10_takeNumber 3 (some .boolean), .methodLink RX10 37 yX10_next, .methodLink RX10 45 yX10_isDigit, .fieldLink RX10 25 "LeftArguments$Tape" "number" "I", .code yX10_sign cX10_sign 1 (some .int), .instanceMethod yX10_sign, .selects RX10 yX10_sign yX10_sign, .methodLink RX10 49 yX10_sign, .methodLink RX10 41 yX10_wrongHere, .instanceMethod yX10_takeNumber, .selects RX10 yX10_takeNumber yX10_takeNumber, .methodLink RX3 95 yX10_takeNumber, .code yX10_number cX10_number 1 (some .int), .instanceMethod yX10_number, .selects RX10 yX10_number yX10_number, .methodLink RX3 98 yX10_number, .instanceMethod yX3_readAtom, .selects RX3 yX3_readAtom yX3_readAtom, .methodLink RX3 89 yX3_readAtom, .instanceMethod yX3_readTerm, .selects RX3 yX3_readTerm yX3_readTerm, .methodLink RX3 86 yX3_readTerm, .instanceMethod yX3_readSum, .selects RX3 yX3_readSum yX3_readSum, .methodLink RX3 59 yX3_readSum, .code yX10_take cX10_take 2 (some .boolean), .instanceMethod yX10_take, .selects RX10 yX10_take yX10_take, .methodLink RX3 51 yX10_take, .instanceMethod yX3_readUnit, .selects RX3 yX3_readUnit yX3_readUnit, .methodLink RX3 80 yX3_readUnit, .code yX3_readCondition cX3_readCondition 4 (some .boolean), .code yX3_readTruth cX3_readTruth 4 (some .boolean), .instanceMethod yX3_readTruth, .selects RX3 yX3_readTruth yX3_readTruth, .methodLink RX3 74 yX3_readTruth, .instanceMethod yX3_readCondition, .selects RX3 yX3_readCondition yX3_readCondition, .methodLink RX3 70 yX3_readCondition] : List Cond) ++ wsX30 ++ wsX100)
set_option maxRecDepth 20000 in
theorem g_X3_readTruth_1_0 : GoodIn q_X3_readTruth_1 (wsV RX3 80 RX3 yX3_readUnit q_X3_readUnit_1) := goodIn_app (goodIn_r _ [108, 106, 107, 12] rfl (by decide +kernel)) (goodIn_ca (goodIn_ca (goodIn_r (.code yX3_readUnit cX3_readUnit 5 (some .boolean) :: [.fieldLink RX3 19 "LeftArguments$LawReader" "tape" "LLeftArguments$Tape;", .code yX10_next cX10_next 1 (some .int), .fieldLink RX10 19 "LeftArguments$Tape" "at" "I", .fieldLink RX10 15 "LeftArguments$Tape" "used" "I", .fieldLink RX10 9 "LeftArguments$Tape" "bytes" "[I", .initialized RX10, .instanceMethod yX10_next, .selects RX10 yX10_next yX10_next, .methodLink RX3 48 yX10_next, .code yX3_comparing cX3_comparing 1 (some .int), .initialized RX3, .static yX3_comparing, .methodLink RX3 62 yX3_comparing, .code yX10_step cX10_step 1 none, .instanceMethod yX10_step, .selects RX10 yX10_step yX10_step, .methodLink RX3 77 yX10_step, .code yX3_readSum cX3_readSum 4 (some .boolean), .code yX3_readTerm cX3_readTerm 4 (some .boolean), .code yX3_readAtom cX3_readAtom 4 (some .boolean), .code yX10_isDigit cX10_isDigit 1 (some .boolean), .static yX10_isDigit, .methodLink RX3 92 yX10_isDigit, .code yX3_write cX3_write 3 none, .fieldLink RX3 15 "LeftArguments$LawReader" "used" "I", .fieldLink RX3 11 "LeftArguments$LawReader" "code" "[I", .instanceMethod yX3_write, .selects RX3 yX3_write yX3_write, .methodLink RX3 66 yX3_write, .code yX10_wrongHere cX10_wrongHere 1 (some .boolean), .fieldLink RX10 22 "LeftArguments$Tape" "wrongAt" "I", .instanceMethod yX10_wrongHere, .selects RX10 yX10_wrongHere yX10_wrongHere, .methodLink RX3 83 yX10_wrongHere, .code yJ0_indexOf_0f7a4 cJ0_indexOf_0f7a4 2 (some .int), .code yJ0_indexOf_7cf53 cJ0_indexOf_7cf53 3 (some .int), .code yJ0_isLatin1_aae02 cJ0_isLatin1_aae02 1 (some .boolean), .fieldLink RJ0 38 "java/lang/String" "COMPACT_STRINGS" "Z", .fieldLink RJ0 15 "java/lang/String" "coder" "B", .initialized RJ0, .instanceMethod yJ0_isLatin1_aae02, .selects RJ0 yJ0_isLatin1_aae02 yJ0_isLatin1_aae02, .methodLink RJ0 492 yJ0_isLatin1_aae02, .fieldLink RJ0 9 "java/lang/String" "value" "[B", .code yJ0_length_8abf5 cJ0_length_8abf5 1 (some .int), .code yJ0_coder_7d493 cJ0_coder_7d493 1 (some .byte), .instanceMethod yJ0_coder_7d493, .selects RJ0 yJ0_coder_7d493 yJ0_coder_7d493, .methodLink RJ0 335 yJ0_coder_7d493, .instanceMethod yJ0_length_8abf5, .selects RJ0 yJ0_length_8abf5 yJ0_length_8abf5, .methodLink RJ0 505 yJ0_length_8abf5, .code yJ1_indexOf_4cfef cJ1_indexOf_4cfef 4 (some .int), .code yJ1_canEncode_9a6ad cJ1_canEncode_9a6ad 1 (some .boolean), .initialized RJ1, .static yJ1_canEncode_9a6ad, .methodLink RJ1 88 yJ1_canEncode_9a6ad, .methodLink RJ1 92 Lib.Math.max.name, .static Lib.Math.max.name, .initialized "java/lang/Math", .code Lib.Math.max.name Lib.Math.max.code 2 (some .int), .methodLink RJ1 38 Lib.Math.min.name, .static Lib.Math.min.name, .code Lib.Math.min.name Lib.Math.min.code 2 (some .int), .code yJ1_indexOfChar_4cfef cJ1_indexOfChar_4cfef 6 (some .int), .static yJ1_indexOfChar_4cfef, .methodLink RJ1 95 yJ1_indexOfChar_4cfef, .static yJ1_indexOf_4cfef, .methodLink RJ0 637 yJ1_indexOf_4cfef, .instanceMethod yJ0_indexOf_7cf53, .selects RJ0 yJ0_indexOf_7cf53 yJ0_indexOf_7cf53, .methodLink RJ0 633 yJ0_indexOf_7cf53, .instanceMethod yJ0_indexOf_0f7a4, .selects RJ0 yJ0_indexOf_0f7a4 yJ0_indexOf_0f7a4, .methodLink RX3 103 yJ0_indexOf_0f7a4, .code yX10_takeNumber cX10_takeNumber 3 (some .boolean), .methodLink RX10 37 yX10_next, .methodLink RX10 45 yX10_isDigit, .fieldLink RX10 25 "LeftArguments$Tape" "number" "I", .code yX10_sign cX10_sign 1 (some .int), .instanceMethod yX10_sign, .selects RX10 yX10_sign yX10_sign, .methodLink RX10 49 yX10_sign, .methodLink RX10 41 yX10_wrongHere, .instanceMethod yX10_takeNumber, .selects RX10 yX10_takeNumber yX10_takeNumber, .methodLink RX3 95 yX10_takeNumber, .code yX10_number cX10_number 1 (some .int), .instanceMethod yX10_number, .selects RX10 yX10_number yX10_number, .methodLink RX3 98 yX10_number, .instanceMethod yX3_readAtom, .selects RX3 yX3_readAtom yX3_readAtom, .methodLink RX3 89 yX3_readAtom, .instanceMethod yX3_readTerm, .selects RX3 yX3_readTerm yX3_readTerm, .methodLink RX3 86 yX3_readTerm, .instanceMethod yX3_readSum, .selects RX3 yX3_readSum yX3_readSum, .methodLink RX3 59 yX3_readSum, .code yX10_take cX10_take 2 (some .boolean), .instanceMethod yX10_take, .selects RX10 yX10_take yX10_take, .methodLink RX3 51 yX10_take, .code yX3_readUnit cX3_readUnit 5 (some .boolean), .instanceMethod yX3_readUnit, .selects RX3 yX3_readUnit yX3_readUnit, .methodLink RX3 80 yX3_readUnit, .code yX3_readCondition cX3_readCondition 4 (some .boolean), .code yX3_readTruth cX3_readTruth 4 (some .boolean), .instanceMethod yX3_readTruth, .selects RX3 yX3_readTruth yX3_readTruth, .methodLink RX3 74 yX3_readTruth, .instanceMethod yX3_readCondition, .selects RX3 yX3_readCondition yX3_readCondition, .methodLink RX3 70 yX3_readCondition]) [1, 2, 3, 4, 5, 6, 7, 8, 9, 10, 11, 12, 13, 14, 15, 16, 17, 18, 19, 20, 21, 22, 23, 24, 25, 26, 27, 28, 29, 30, 31, 32, 33, 34, 35, 36, 37, 38, 39, 40, 41, 42, 43, 44, 45, 46, 47, 48, 49, 50, 51, 52, 53, 54, 55, 56, 57, 58, 59, 60, 61, 62, 63, 64, 65, 66, 67, 68, 69, 70, 71, 72, 73, 74, 75, 76, 77, 78, 79, 80, 81, 82, 83, 84, 85, 86, 87, 88, 89, 90, 91, 92, 93, 94, 95, 96, 97, 98, 99, 100, 101, 102, 103, 104, 105, 1, 106, 107, 108, 109, 110, 111, 112, 113, 114, 115, 116] rfl (by decide +kernel)) (goodIn_sub (fun _ h => List.mem_cons_of_mem _ (List.mem_append_left _ (List.mem_append_right _ h))) gwX3)) (goodIn_sub (fun _ h => List.mem_cons_of_mem _ (List.mem_append_right _ h)) gwX10))
set_option maxRecDepth 20000 in
theorem g_X3_readTruth_1_1 : GoodIn q_X3_readTruth_1 (wsV RX3 48 RX10 yX10_next q_X10_next) := goodIn_app (goodIn_r _ [10, 8, 9, 7] rfl (by decide +kernel)) (goodIn_ca (goodIn_r (.code yX10_next cX10_next 1 (some .int) :: [.fieldLink RX10 19 "LeftArguments$Tape" "at" "I", .fieldLink RX10 15 "LeftArguments$Tape" "used" "I", .fieldLink RX10 9 "LeftArguments$Tape" "bytes" "[I"]) [3, 4, 5, 6] rfl (by decide +kernel)) (goodIn_sub (fun _ h => List.mem_cons_of_mem _ (List.mem_append_right _ h)) gwX10))
set_option maxRecDepth 20000 in
theorem g_X3_readTruth_1_2 : GoodIn q_X3_readTruth_1 (wsV RX3 77 RX10 yX10_step q_X10_step) := goodIn_app (goodIn_r _ [18, 16, 17, 7] rfl (by decide +kernel)) (goodIn_ca (goodIn_r (.code yX10_step cX10_step 1 none :: [.fieldLink RX10 19 "LeftArguments$Tape" "at" "I"]) [15, 4] rfl (by decide +kernel)) (goodIn_sub (fun _ h => List.mem_cons_of_mem _ (List.mem_append_right _ h)) gwX10))
set_option maxRecDepth 20000 in
theorem g_X3_readTruth_1_4 : GoodIn q_X3_readTruth_1 (wsV RX3 66 RX3 yX3_write q_X3_write) := goodIn_app (goodIn_r _ [30, 28, 29, 12] rfl (by decide +kernel)) (goodIn_ca (goodIn_r (.code yX3_write cX3_write 3 none :: [.fieldLink RX3 15 "LeftArguments$LawReader" "used" "I", .fieldLink RX3 11 "LeftArguments$LawReader" "code" "[I"]) [25, 26, 27] rfl (by decide +kernel)) (goodIn_sub (fun _ h => List.mem_cons_of_mem _ (List.mem_append_left _ (List.mem_append_right _ h))) gwX3))
set_option maxHeartbeats 4000000 in
set_option maxRecDepth 100000 in
theorem k_X3_readTruth_1 (l : Launch) (dC : Nat → ClassId) (dI : Nat → Nat → Nat) (adK : Nat → Nat) (adV : Nat → Nat) (h0 : Nat) (h1 : Nat) (h2 : Nat) (h3 : Nat) (v0 : Int32) (v1 : Int32) (v2 : Int32) (v3 : Int32) (v4 : Int32) (g0 : ClassId) (f5 : Nat → Int32) (g1 : ClassId) (f6 : Nat → Int32) (v7 : Int32) (i_v0 : 0 ≤ v0.toInt ∧ v0.toInt ≤ 256) (i_v1 : 0 ≤ v1.toInt ∧ v1.toInt ≤ 240) (i_v7 : 0 ≤ v7.toInt ∧ v7.toInt ≤ 1) (sz : Nat) : Met l yX3_readTruth q_X3_readTruth_1 ({ frames := 11, cells := 0, slots := 0, locals := 254 }) (va_Pc [.ref h0, .int 5, .int v7] (fun U => U.heap.size = sz ∧ va_P (dC, dI) vwCl (wd_1ad0248d h0 h1 h3 v0 h1 h2 v1 v2 v3 v4 h2 g0 f5 h3 g1 f6) U.heap ∧ va_K (dC, dI) vwCl [(g0, .int), (g1, .int)] U ∧ va_D (fun _ => True) (wd_1ad0248d h0 h1 h3 v0 h1 h2 v1 v2 v3 v4 h2 g0 f5 h3 g1 f6) ∧ vk_R RX3 101 "zaondt" (adK 2) U ∧ va_Z "java/lang/String" "COMPACT_STRINGS" "Z" (.int 1) (va_A (wd_1ad0248d h0 h1 h3 v0 h1 h2 v1 v2 v3 v4 h2 g0 f5 h3 g1 f6) sz) U U.heap ∧ vk_S 3 pv_len3 pv_byt3 adK adV (va_A (wd_1ad0248d h0 h1 h3 v0 h1 h2 v1 v2 v3 v4 h2 g0 f5 h3 g1 f6) sz) U U.heap)) (va_Qi (fun (r : Int32) (_ : Unit) => 0 ≤ r.toInt ∧ r.toInt ≤ 1) (fun (_ : Unit) (t : State) => ∃ (o_h0_2 : Int32) (o_h1_2 : Int32) (o_h1_3 : Int32) (o_h1_4 : Int32) (o_h3 : Nat → Int32), 0 ≤ o_h0_2.toInt ∧ o_h0_2.toInt ≤ 256 ∧ va_P (dC, dI) vwCl (wd_1ad0248d h0 h1 h3 o_h0_2 h1 h2 v1 o_h1_2 o_h1_3 o_h1_4 h2 g0 f5 h3 g1 o_h3) t.heap ∧ va_K (dC, dI) vwCl [] t ∧ va_D (va_A (wd_1ad0248d h0 h1 h3 v0 h1 h2 v1 v2 v3 v4 h2 g0 f5 h3 g1 f6) sz) (wd_1ad0248d h0 h1 h3 o_h0_2 h1 h2 v1 o_h1_2 o_h1_3 o_h1_4 h2 g0 f5 h3 g1 o_h3)) (va_A (wd_1ad0248d h0 h1 h3 v0 h1 h2 v1 v2 v3 v4 h2 g0 f5 h3 g1 f6) sz)) 0 0 (va_A (wd_1ad0248d h0 h1 h3 v0 h1 h2 v1 v2 v3 v4 h2 g0 f5 h3 g1 f6) sz) := by
  refine Met.ofW (cc := cX3_readTruth) (maxL := 4) (ret := (some .boolean)) (by decide) rfl ?_
  intro p e s m args below meth c s₁ B hml hv
  obtain ⟨i_v0a, i_v0b⟩ := i_v0
  obtain ⟨i_v1a, i_v1b⟩ := i_v1
  obtain ⟨i_v7a, i_v7b⟩ := i_v7
  obtain ⟨rfl, hsz, hP, hK, hD0, h_vr_2, h_st_CS, h_st_S⟩ := hv
  have hx := B.exec
  have hb := B.bytes
  have hr := B.returns
  have hts := atoms_spec (ws := q_X3_readTruth_1) B.pre
  have hown : s.vm.findClass RX3 = some m.cls := findClass_of_methodNamed B.named
  have hlocks := B.notSynchronized
  subst hsz
  have hD := hD0.self (sz := s.heap.size)
  generalize hAe : va_A (wd_1ad0248d h0 h1 h3 v0 h1 h2 v1 v2 v3 v4 h2 g0 f5 h3 g1 f6) s.heap.size = A at hD h_st_CS h_st_S ⊢
  have hA : ∀ q : Nat, s.heap.size ≤ q → A q := fun q h => by rw [← hAe]; exact Or.inr h
  have hS : va_S A s.heap s.heap [] := va_S.rf
  generalize hQ : (MQ below _ _ s 0 0 A) = Q
  have hl := lv_entry ([.ref h0, .int 5, .int v7]) (n := 4) (Nat.le_of_ble_eq_true rfl)
  rw [lg_entry_eq]
  generalize (lg_sl ([.ref h0, .int 5, .int v7]) ++ List.replicate (4 - (lg_sl ([.ref h0, .int 5, .int v7])).length) Slot.unset).toArray = ls at hl ⊢
  have hl : lv_has ls 4 [(0, .ref h0), (1, .int 5), (2, .int v7)] := hl
  obtain ⟨H, hH⟩ : ∃ H : Heap, H = s.heap := ⟨_, rfl⟩
  obtain ⟨locs, hlocs⟩ : ∃ y : List Loc, y = [] := ⟨_, rfl⟩
  have hS : va_S A s.heap H locs := by rw [hH, hlocs]; exact va_S.rf
  have hP : va_P (dC, dI) vwCl (wd_1ad0248d h0 h1 h3 v0 h1 h2 v1 v2 v3 v4 h2 g0 f5 h3 g1 f6) H := by rw [hH]; exact hP
  rw [← hH, ← hlocs]
  refine lv_aload_n hx hb dX3_readTruth_0 rfl (lv_at hl 0 rfl) ?_
  refine lv_iload_n hx hb dX3_readTruth_1 rfl (lv_at hl 1 rfl) ?_
  refine lv_iload_n hx hb dX3_readTruth_2 rfl (lv_at hl 2 rfl) ?_
  have hPc := hP.sub (ws' := (wd_1ad0248d h0 h1 h3 v0 h1 h2 v1 v2 v3 v4 h2 g0 f5 h3 g1 f6)) [0, 1, 2, 3] rfl
  have hDc := hD.sub (ws' := (wd_1ad0248d h0 h1 h3 v0 h1 h2 v1 v2 v3 v4 h2 g0 f5 h3 g1 f6)) [0, 1, 2, 3] (by decide) rfl
  have hKc := hK.sub (tys' := [(g0, .int), (g1, .int)]) [0, 1] rfl
  have hFc := va_free (wc := (wd_1ad0248d h0 h1 h3 v0 h1 h2 v1 v2 v3 v4 h2 g0 f5 h3 g1 f6)) hD hS hA [0, 1, 2, 3] rfl
  refine va_calli (va_runV (As := [.int 5, .int v7]) (rest := []) ⟨hx, hb, hml, hown, hts⟩ (k_X3_readUnit_1 l dC dI adK adV h0 h1 h2 h3 v0 v1 v2 v3 v4 g0 f5 g1 f6 v7 ⟨by first | omega | decide, by first | omega | decide⟩ ⟨by first | omega | decide, by first | omega | decide⟩ ⟨by first | omega | decide, by first | omega | decide⟩ H.size) (cwV 2 hts g_X3_readTruth_1_0 rfl rfl rfl (by decide +kernel) ⟨Nat.le_of_ble_eq_true rfl, Nat.le_of_ble_eq_true rfl⟩) ⟨fun a U g mk q => by obtain ⟨q0, q1, qP, qK, qD, n0, n1, n2⟩ := q; exact ⟨q0, q1, qP, va_K.moved (u := U) (U := U.calling g mk a) (Vm.Alike.refl U.vm) qK, qD, vk_R.same rfl n0, va_Z.moved (Vm.Alike.refl _) n1, vk_S.moved (Vm.Alike.refl _) n2⟩, va_recv hKc hPc (ci := 3) (q0 := 0) rfl rfl, fun U hU hW => ⟨rfl, by rw [hU], by rw [hU]; exact hPc, va_K.moved hW.alike hKc, hDc.weaken (fun _ _ _ _ => trivial), vk_R.warm hW h_vr_2, (by rw [hU]; exact (va_Z.moved hW.alike (va_Z.kept h_st_CS hS.2.1)).narrow hFc), (by rw [hU]; exact (vk_S.moved hW.alike (vk_S.kept h_st_S hS.2.1)).narrow hFc)⟩⟩ rfl rfl hl.1 rfl (lv_room (Nat.le_of_ble_eq_true rfl)) dX3_readTruth_3 ⟨Nat.le_of_ble_eq_true rfl, Nat.le_of_ble_eq_true rfl⟩) hS (fun q _ h => hFc q h) hFc (fun ra1 u t H1 locs ht hvm hwra1 hB hz1 hk1 hS => ?_)
  obtain ⟨x2, x3, x4, x5, fn6, oa_x2, ob_x2, hP1, hK1, hD1⟩ := hB
  rw [ht] at hP1
  obtain ⟨hP, hD⟩ := va_join (wr := []) (w1 := (wd_1ad0248d h0 h1 h3 x2 h1 h2 v1 x3 x4 x5 h2 g0 f5 h3 g1 fn6)) hP hD [0, 1, 2, 3] [] rfl rfl (by decide) (by decide) hk1 hFc hP1 hD1
  generalize H1 = H at hP hS ⊢
  have hP : va_P (dC, dI) vwCl (wd_1ad0248d h0 h1 h3 x2 h1 h2 v1 x3 x4 x5 h2 g0 f5 h3 g1 fn6) H := hP
  have hD : va_D A (wd_1ad0248d h0 h1 h3 x2 h1 h2 v1 x3 x4 x5 h2 g0 f5 h3 g1 fn6) := hD
  obtain ⟨wa_ra1, wb_ra1⟩ := hwra1
  have wa_ra1 : 0 ≤ ra1.toInt := wa_ra1
  have wb_ra1 : ra1.toInt ≤ 1 := wb_ra1
  refine lv_if_ne (tgt := 11) hx hb dX3_readTruth_6 (by decide) (fun c7 => ?_) (fun c7 => ?_)
  · skip
    have fc7 : ¬ (ra1.toInt = 0) := fun h9 => c7 (Int32.toInt_inj.mp h9)
    refine lv_iconst (v := 0) hx hb dX3_readTruth_11 (by decide) ?_
    refine lv_istore_n (lv' := [(3, .int 0), (0, .ref h0), (1, .int 5), (2, .int v7)]) hx hb dX3_readTruth_12 rfl hl (by decide) rfl (fun ls hl => ?_)
    have hL98 : ∀ (n9 : Nat), ∀ (x86 : Int32) (x87 : Int32) (x88 : Int32) (x89 : Int32) (x90 : Int32) (fn91 : Nat → Int32) (H : Heap) (locs : List Loc) (ls : Array Slot), 0 ≤ x86.toInt → x86.toInt ≤ 240 → 0 ≤ x87.toInt → x87.toInt ≤ 256 → (240 - x86.toInt).toNat < n9 → va_P (dC, dI) vwCl (wd_1ad0248d h0 h1 h3 x87 h1 h2 v1 x88 x89 x90 h2 g0 f5 h3 g1 fn91) H → va_D A (wd_1ad0248d h0 h1 h3 x87 h1 h2 v1 x88 x89 x90 h2 g0 f5 h3 g1 fn91) → va_S A s.heap H locs → lv_has ls 4 [(3, .int x86), (0, .ref h0), (1, .int 5), (2, .int v7)] → W p l e ({ frames := 11, cells := 0, slots := 0, locals := 254 }) s m ([.ref h0, .int 5, .int v7] : List Value).toArray below meth c H locs 0 0 Q (F0 m 13 ls []) := by
      intro n9
      induction n9 with
      | zero => intro x86 x87 x88 x89 x90 fn91 H locs ls qa_x86 qb_x86 qa_x87 qb_x87 hm9 hP hD hS hl; exact absurd hm9 (Nat.not_lt_zero _)
      | succ n9 ih_hL98 =>
        intro x86 x87 x88 x89 x90 fn91 H locs ls qa_x86 qb_x86 qa_x87 qb_x87 hm9 hP hD hS hl
        refine lv_iload_n hx hb dX3_readTruth_13 rfl (lv_at hl 0 rfl) ?_
        refine lv_sipush (v := 240) hx hb dX3_readTruth_14 (by decide) ?_
        refine lv_icmp_ge (tgt := 63) hx hb dX3_readTruth_17 (by decide) (fun c99 => ?_) (fun c99 => ?_)
        · skip
          have fc99 : 240 ≤ x86.toInt := Int32.le_iff_toInt_le.mp c99
          refine lv_iconst (v := 1) hx hb dX3_readTruth_63 (by decide) ?_
          subst hQ
          have hP9 := hP.sub (ws' := (wd_1ad0248d h0 h1 h3 x87 h1 h2 v1 x88 x89 x90 h2 g0 f5 h3 g1 fn91)) [0, 1, 2, 3] rfl
          have hD9 := hD.sub (ws' := (wd_1ad0248d h0 h1 h3 x87 h1 h2 v1 x88 x89 x90 h2 g0 f5 h3 g1 fn91)) [0, 1, 2, 3] (by decide) rfl
          have hK9 := hK.sub (tys' := []) [] rfl
          exact W.zret (v := 1) hx hb hr rfl (fun t ht hW => ⟨⟨1, (), rfl, ⟨by first | omega | decide, by first | omega | decide⟩, x87, x88, x89, x90, fn91, by first | omega | decide, by first | omega | decide, by rw [ht]; exact hP9, va_K.moved hW.alike hK9, hD9⟩, hS.F ht⟩) hS.2.2 dX3_readTruth_64
        · skip
          have fc99 : ¬ (240 ≤ x86.toInt) := fun h9 => c99 (Int32.le_iff_toInt_le.mpr h9)
          refine lv_aload_n hx hb dX3_readTruth_20 rfl (lv_at hl 1 rfl) ?_
          refine va_get (D := (dC, dI)) (ci := 3) (v := .ref h1) (C := RX3) (T := TX3) (N := 3) hx hb hts (fun _ h => List.mem_cons_of_mem _ (List.mem_append_left _ (List.mem_append_right _ h))) hown hK hP 0 rfl rfl 0 (by decide) (hts (.fieldLink RX3 19 "LeftArguments$LawReader" "tape" "LLeftArguments$Tape;") (List.mem_cons_of_mem _ (List.mem_append_left _ (List.mem_append_left _ (List.mem_of_getElem? (i := 1) rfl))))) (fun _ h9 => h9) rfl dX3_readTruth_21 ?_
          have hPc := hP.sub (ws' := (wd_82cdd16b h1 h2 v1 x88 x89 x90 h2 g0 f5)) [1, 2] rfl
          have hDc := hD.sub (ws' := (wd_82cdd16b h1 h2 v1 x88 x89 x90 h2 g0 f5)) [1, 2] (by decide) rfl
          have hKc := hK.sub (tys' := [(g0, .int)]) [0] rfl
          have hFc := va_free (wc := (wd_82cdd16b h1 h2 v1 x88 x89 x90 h2 g0 f5)) hD hS hA [1, 2] rfl
          refine va_calli (va_runV (As := []) (rest := []) ⟨hx, hb, hml, hown, hts⟩ (k_X10_next l dC dI h1 h2 v1 x88 x89 x90 g0 f5 ⟨by first | omega | decide, by first | omega | decide⟩ H.size) (cwV 0 hts g_X3_readTruth_1_1 rfl rfl rfl (by decide +kernel) ⟨Nat.le_of_ble_eq_true rfl, Nat.le_of_ble_eq_true rfl⟩) ⟨fun a U g mk q => by obtain ⟨q0, q1, qP, qK, qD⟩ := q; exact ⟨q0, q1, qP, va_K.moved (u := U) (U := U.calling g mk a) (Vm.Alike.refl U.vm) qK, qD⟩, va_recv hKc hPc (ci := 10) (q0 := 0) rfl rfl, fun U hU hW => ⟨rfl, by rw [hU], by rw [hU]; exact hPc, va_K.moved hW.alike hKc, hDc.weaken (fun _ _ _ _ => trivial)⟩⟩ rfl rfl hl.1 rfl (lv_room (Nat.le_of_ble_eq_true rfl)) dX3_readTruth_24 ⟨Nat.le_of_ble_eq_true rfl, Nat.le_of_ble_eq_true rfl⟩) hS (fun q _ h => hFc q h) hFc (fun ra100 u t H1 locs ht hvm hwra100 hB hz1 hk1 hS => ?_)
          obtain ⟨x101, hP1, hK1, hD1⟩ := hB
          rw [ht] at hP1
          obtain ⟨hP, hD⟩ := va_join (wr := (wd_b958b9da h0 h1 h3 x87 h3 g1 fn91)) (w1 := (wd_82cdd16b h1 h2 v1 x101 x89 x90 h2 g0 f5)) hP hD [1, 2] [0, 3] rfl rfl (by decide) (by decide) hk1 hFc hP1 hD1
          generalize H1 = H at hP hS ⊢
          have hP := hP.sub (ws' := (wd_1ad0248d h0 h1 h3 x87 h1 h2 v1 x101 x89 x90 h2 g0 f5 h3 g1 fn91)) [0, 2, 3, 1] rfl
          have hD := hD.sub (ws' := (wd_1ad0248d h0 h1 h3 x87 h1 h2 v1 x101 x89 x90 h2 g0 f5 h3 g1 fn91)) [0, 2, 3, 1] (by decide) rfl
          have hP : va_P (dC, dI) vwCl (wd_1ad0248d h0 h1 h3 x87 h1 h2 v1 x101 x89 x90 h2 g0 f5 h3 g1 fn91) H := hP
          have hD : va_D A (wd_1ad0248d h0 h1 h3 x87 h1 h2 v1 x101 x89 x90 h2 g0 f5 h3 g1 fn91) := hD
          refine lv_bipush (v := 38) hx hb dX3_readTruth_27 (by decide) ?_
          refine lv_icmp_ne (tgt := 63) hx hb dX3_readTruth_29 (by decide) (fun c102 => ?_) (fun c102 => ?_)
          · skip
            have fc102 : ¬ (ra100.toInt = 38) := fun h9 => c102 (Int32.toInt_inj.mp h9)
            refine lv_iconst (v := 1) hx hb dX3_readTruth_63 (by decide) ?_
            subst hQ
            have hP9 := hP.sub (ws' := (wd_1ad0248d h0 h1 h3 x87 h1 h2 v1 x101 x89 x90 h2 g0 f5 h3 g1 fn91)) [0, 1, 2, 3] rfl
            have hD9 := hD.sub (ws' := (wd_1ad0248d h0 h1 h3 x87 h1 h2 v1 x101 x89 x90 h2 g0 f5 h3 g1 fn91)) [0, 1, 2, 3] (by decide) rfl
            have hK9 := hK.sub (tys' := []) [] rfl
            exact W.zret (v := 1) hx hb hr rfl (fun t ht hW => ⟨⟨1, (), rfl, ⟨by first | omega | decide, by first | omega | decide⟩, x87, x101, x89, x90, fn91, by first | omega | decide, by first | omega | decide, by rw [ht]; exact hP9, va_K.moved hW.alike hK9, hD9⟩, hS.F ht⟩) hS.2.2 dX3_readTruth_64
          · skip
            have fc102 : ra100.toInt = 38 := congrArg Int32.toInt c102
            refine lv_aload_n hx hb dX3_readTruth_32 rfl (lv_at hl 1 rfl) ?_
            refine va_get (D := (dC, dI)) (ci := 3) (v := .ref h1) (C := RX3) (T := TX3) (N := 3) hx hb hts (fun _ h => List.mem_cons_of_mem _ (List.mem_append_left _ (List.mem_append_right _ h))) hown hK hP 0 rfl rfl 0 (by decide) (hts (.fieldLink RX3 19 "LeftArguments$LawReader" "tape" "LLeftArguments$Tape;") (List.mem_cons_of_mem _ (List.mem_append_left _ (List.mem_append_left _ (List.mem_of_getElem? (i := 1) rfl))))) (fun _ h9 => h9) rfl dX3_readTruth_33 ?_
            have hPc := hP.sub (ws' := (wd_09b0abee h1 h2 v1 x101 x89 x90)) [1] rfl
            have hDc := hD.sub (ws' := (wd_09b0abee h1 h2 v1 x101 x89 x90)) [1] (by decide) rfl
            have hKc := hK.sub (tys' := []) [] rfl
            have hFc := va_free (wc := (wd_09b0abee h1 h2 v1 x101 x89 x90)) hD hS hA [1] rfl
            refine va_callv (va_runV (As := []) (rest := []) ⟨hx, hb, hml, hown, hts⟩ (k_X10_step l dC dI h1 h2 v1 x101 x89 x90 ⟨by first | omega | decide, by first | omega | decide⟩ H.size) (cwV 0 hts g_X3_readTruth_1_2 rfl rfl rfl (by decide +kernel) ⟨Nat.le_of_ble_eq_true rfl, Nat.le_of_ble_eq_true rfl⟩) ⟨fun a U g mk q => by obtain ⟨q0, q1, qP, qK, qD⟩ := q; exact ⟨q0, q1, qP, va_K.moved (u := U) (U := U.calling g mk a) (Vm.Alike.refl U.vm) qK, qD⟩, va_recv hKc hPc (ci := 10) (q0 := 0) rfl rfl, fun U hU hW => ⟨rfl, by rw [hU], by rw [hU]; exact hPc, va_K.moved hW.alike hKc, hDc.weaken (fun _ _ _ _ => trivial)⟩⟩ rfl rfl hl.1 rfl (lv_room (Nat.le_of_ble_eq_true rfl)) dX3_readTruth_36 ⟨Nat.le_of_ble_eq_true rfl, Nat.le_of_ble_eq_true rfl⟩) hS (fun q _ h => hFc q h) hFc (fun u t H1 locs ht hvm hwra103 hB hz1 hk1 hS => ?_)
            obtain ⟨x104, hP1, hK1, hD1⟩ := hB
            rw [ht] at hP1
            obtain ⟨hP, hD⟩ := va_join (wr := (wd_6b0d8e05 h0 h1 h3 x87 h2 g0 f5 h3 g1 fn91)) (w1 := (wd_09b0abee h1 h2 v1 x104 x89 x90)) hP hD [1] [0, 2, 3] rfl rfl (by decide) (by decide) hk1 hFc hP1 hD1
            generalize H1 = H at hP hS ⊢
            have hP := hP.sub (ws' := (wd_1ad0248d h0 h1 h3 x87 h1 h2 v1 x104 x89 x90 h2 g0 f5 h3 g1 fn91)) [0, 3, 1, 2] rfl
            have hD := hD.sub (ws' := (wd_1ad0248d h0 h1 h3 x87 h1 h2 v1 x104 x89 x90 h2 g0 f5 h3 g1 fn91)) [0, 3, 1, 2] (by decide) rfl
            have hP : va_P (dC, dI) vwCl (wd_1ad0248d h0 h1 h3 x87 h1 h2 v1 x104 x89 x90 h2 g0 f5 h3 g1 fn91) H := hP
            have hD : va_D A (wd_1ad0248d h0 h1 h3 x87 h1 h2 v1 x104 x89 x90 h2 g0 f5 h3 g1 fn91) := hD
            refine lv_aload_n hx hb dX3_readTruth_39 rfl (lv_at hl 1 rfl) ?_
            refine lv_iload_n hx hb dX3_readTruth_40 rfl (lv_at hl 2 rfl) ?_
            refine lv_iconst (v := 0) hx hb dX3_readTruth_41 (by decide) ?_
            have hPc := hP.sub (ws' := (wd_1ad0248d h0 h1 h3 x87 h1 h2 v1 x104 x89 x90 h2 g0 f5 h3 g1 fn91)) [0, 1, 2, 3] rfl
            have hDc := hD.sub (ws' := (wd_1ad0248d h0 h1 h3 x87 h1 h2 v1 x104 x89 x90 h2 g0 f5 h3 g1 fn91)) [0, 1, 2, 3] (by decide) rfl
            have hKc := hK.sub (tys' := [(g0, .int), (g1, .int)]) [0, 1] rfl
            have hFc := va_free (wc := (wd_1ad0248d h0 h1 h3 x87 h1 h2 v1 x104 x89 x90 h2 g0 f5 h3 g1 fn91)) hD hS hA [0, 1, 2, 3] rfl
            refine va_calli (va_runV (As := [.int 5, .int 0]) (rest := []) ⟨hx, hb, hml, hown, hts⟩ (k_X3_readUnit_1 l dC dI adK adV h0 h1 h2 h3 x87 v1 x104 x89 x90 g0 f5 g1 fn91 0 ⟨by first | omega | decide, by first | omega | decide⟩ ⟨by first | omega | decide, by first | omega | decide⟩ ⟨by first | omega | decide, by first | omega | decide⟩ H.size) (cwV 2 hts g_X3_readTruth_1_0 rfl rfl rfl (by decide +kernel) ⟨Nat.le_of_ble_eq_true rfl, Nat.le_of_ble_eq_true rfl⟩) ⟨fun a U g mk q => by obtain ⟨q0, q1, qP, qK, qD, n0, n1, n2⟩ := q; exact ⟨q0, q1, qP, va_K.moved (u := U) (U := U.calling g mk a) (Vm.Alike.refl U.vm) qK, qD, vk_R.same rfl n0, va_Z.moved (Vm.Alike.refl _) n1, vk_S.moved (Vm.Alike.refl _) n2⟩, va_recv hKc hPc (ci := 3) (q0 := 0) rfl rfl, fun U hU hW => ⟨rfl, by rw [hU], by rw [hU]; exact hPc, va_K.moved hW.alike hKc, hDc.weaken (fun _ _ _ _ => trivial), vk_R.warm hW h_vr_2, (by rw [hU]; exact (va_Z.moved hW.alike (va_Z.kept h_st_CS hS.2.1)).narrow hFc), (by rw [hU]; exact (vk_S.moved hW.alike (vk_S.kept h_st_S hS.2.1)).narrow hFc)⟩⟩ rfl rfl hl.1 rfl (lv_room (Nat.le_of_ble_eq_true rfl)) dX3_readTruth_42 ⟨Nat.le_of_ble_eq_true rfl, Nat.le_of_ble_eq_true rfl⟩) hS (fun q _ h => hFc q h) hFc (fun ra105 u t H1 locs ht hvm hwra105 hB hz1 hk1 hS => ?_)
            obtain ⟨x106, x107, x108, x109, fn110, oa_x106, ob_x106, hP1, hK1, hD1⟩ := hB
            rw [ht] at hP1
            obtain ⟨hP, hD⟩ := va_join (wr := []) (w1 := (wd_1ad0248d h0 h1 h3 x106 h1 h2 v1 x107 x108 x109 h2 g0 f5 h3 g1 fn110)) hP hD [0, 1, 2, 3] [] rfl rfl (by decide) (by decide) hk1 hFc hP1 hD1
            generalize H1 = H at hP hS ⊢
            have hP : va_P (dC, dI) vwCl (wd_1ad0248d h0 h1 h3 x106 h1 h2 v1 x107 x108 x109 h2 g0 f5 h3 g1 fn110) H := hP
            have hD : va_D A (wd_1ad0248d h0 h1 h3 x106 h1 h2 v1 x107 x108 x109 h2 g0 f5 h3 g1 fn110) := hD
            obtain ⟨wa_ra105, wb_ra105⟩ := hwra105
            have wa_ra105 : 0 ≤ ra105.toInt := wa_ra105
            have wb_ra105 : ra105.toInt ≤ 1 := wb_ra105
            refine lv_if_ne (tgt := 50) hx hb dX3_readTruth_45 (by decide) (fun c111 => ?_) (fun c111 => ?_)
            · skip
              have fc111 : ¬ (ra105.toInt = 0) := fun h9 => c111 (Int32.toInt_inj.mp h9)
              refine lv_aload_n hx hb dX3_readTruth_50 rfl (lv_at hl 1 rfl) ?_
              refine lv_bipush (v := 10) hx hb dX3_readTruth_51 (by decide) ?_
              refine lv_iconst (v := 0) hx hb dX3_readTruth_53 (by decide) ?_
              have hPc := hP.sub (ws' := (wd_b958b9da h0 h1 h3 x106 h3 g1 fn110)) [0, 3] rfl
              have hDc := hD.sub (ws' := (wd_b958b9da h0 h1 h3 x106 h3 g1 fn110)) [0, 3] (by decide) rfl
              have hKc := hK.sub (tys' := [(g1, .int)]) [1] rfl
              have hFc := va_free (wc := (wd_b958b9da h0 h1 h3 x106 h3 g1 fn110)) hD hS hA [0, 3] rfl
              refine va_callv (va_runV (As := [.int 10, .int 0]) (rest := []) ⟨hx, hb, hml, hown, hts⟩ (k_X3_write l dC dI h0 h3 h1 x106 g1 fn110 10 0 ⟨by first | omega | decide, by first | omega | decide⟩ H.size) (cwV 2 hts g_X3_readTruth_1_4 rfl rfl rfl (by decide +kernel) ⟨Nat.le_of_ble_eq_true rfl, Nat.le_of_ble_eq_true rfl⟩) ⟨fun a U g mk q => by obtain ⟨q0, q1, qP, qK, qD⟩ := q; exact ⟨q0, q1, qP, va_K.moved (u := U) (U := U.calling g mk a) (Vm.Alike.refl U.vm) qK, qD⟩, va_recv hKc hPc (ci := 3) (q0 := 0) rfl rfl, fun U hU hW => ⟨rfl, by rw [hU], by rw [hU]; exact hPc, va_K.moved hW.alike hKc, hDc.weaken (fun _ _ _ _ => trivial)⟩⟩ rfl rfl hl.1 rfl (lv_room (Nat.le_of_ble_eq_true rfl)) dX3_readTruth_54 ⟨Nat.le_of_ble_eq_true rfl, Nat.le_of_ble_eq_true rfl⟩) hS (fun q _ h => hFc q h) hFc (fun u t H1 locs ht hvm hwra112 hB hz1 hk1 hS => ?_)
              obtain ⟨x113, fn114, oa_x113, ob_x113, hP1, hK1, hD1⟩ := hB
              rw [ht] at hP1
              obtain ⟨hP, hD⟩ := va_join (wr := (wd_82cdd16b h1 h2 v1 x107 x108 x109 h2 g0 f5)) (w1 := (wd_b958b9da h0 h1 h3 x113 h3 g1 fn114)) hP hD [0, 3] [1, 2] rfl rfl (by decide) (by decide) hk1 hFc hP1 hD1
              generalize H1 = H at hP hS ⊢
              have hP := hP.sub (ws' := (wd_1ad0248d h0 h1 h3 x113 h1 h2 v1 x107 x108 x109 h2 g0 f5 h3 g1 fn114)) [2, 0, 1, 3] rfl
              have hD := hD.sub (ws' := (wd_1ad0248d h0 h1 h3 x113 h1 h2 v1 x107 x108 x109 h2 g0 f5 h3 g1 fn114)) [2, 0, 1, 3] (by decide) rfl
              have hP : va_P (dC, dI) vwCl (wd_1ad0248d h0 h1 h3 x113 h1 h2 v1 x107 x108 x109 h2 g0 f5 h3 g1 fn114) H := hP
              have hD : va_D A (wd_1ad0248d h0 h1 h3 x113 h1 h2 v1 x107 x108 x109 h2 g0 f5 h3 g1 fn114) := hD
              obtain ⟨t115, et115⟩ : ∃ y : Int32, y = x86 + 1 := ⟨_, rfl⟩
              have gt115 : t115.toInt = x86.toInt + (1) := pv_add (a := x86.toInt) (b := (1)) et115 rfl (by decide) (by omega) (by omega)
              refine lv_iinc (v := t115) (lv' := [(3, .int t115), (0, .ref h0), (1, .int 5), (2, .int v7)]) hx hb dX3_readTruth_57 hl (k := 0) rfl (by rw [et115]; rfl) (by decide) rfl (fun ls hl => ?_)
              refine lv_goto (tgt := 13) hx hb dX3_readTruth_60 (by decide) ?_
              exact ih_hL98 t115 x113 x107 x108 x109 fn114 H locs ls (by first | omega | decide) (by first | omega | decide) (by first | omega | decide) (by first | omega | decide) (by first | omega | (simp only [Int.toNat] at *; omega)) hP hD hS (lv_sub hl [0, 1, 2, 3] rfl)
            · skip
              have fc111 : ra105.toInt = 0 := congrArg Int32.toInt c111
              refine lv_iconst (v := 0) hx hb dX3_readTruth_48 (by decide) ?_
              subst hQ
              have hP9 := hP.sub (ws' := (wd_1ad0248d h0 h1 h3 x106 h1 h2 v1 x107 x108 x109 h2 g0 f5 h3 g1 fn110)) [0, 1, 2, 3] rfl
              have hD9 := hD.sub (ws' := (wd_1ad0248d h0 h1 h3 x106 h1 h2 v1 x107 x108 x109 h2 g0 f5 h3 g1 fn110)) [0, 1, 2, 3] (by decide) rfl
              have hK9 := hK.sub (tys' := []) [] rfl
              exact W.zret (v := 0) hx hb hr rfl (fun t ht hW => ⟨⟨0, (), rfl, ⟨by first | omega | decide, by first | omega | decide⟩, x106, x107, x108, x109, fn110, by first | omega | decide, by first | omega | decide, by rw [ht]; exact hP9, va_K.moved hW.alike hK9, hD9⟩, hS.F ht⟩) hS.2.2 dX3_readTruth_49
    exact hL98 _ 0 x2 x3 x4 x5 fn6 H locs ls (by first | omega | decide) (by first | omega | decide) (by first | omega | decide) (by first | omega | decide) (Nat.lt_succ_self _) hP hD hS (lv_sub hl [0, 1, 2, 3] rfl)
  · skip
    have fc7 : ra1.toInt = 0 := congrArg Int32.toInt c7
    refine lv_iconst (v := 0) hx hb dX3_readTruth_9 (by decide) ?_
    subst hQ
    have hP9 := hP.sub (ws' := (wd_1ad0248d h0 h1 h3 x2 h1 h2 v1 x3 x4 x5 h2 g0 f5 h3 g1 fn6)) [0, 1, 2, 3] rfl
    have hD9 := hD.sub (ws' := (wd_1ad0248d h0 h1 h3 x2 h1 h2 v1 x3 x4 x5 h2 g0 f5 h3 g1 fn6)) [0, 1, 2, 3] (by decide) rfl
    have hK9 := hK.sub (tys' := []) [] rfl
    exact W.zret (v := 0) hx hb hr rfl (fun t ht hW => ⟨⟨0, (), rfl, ⟨by first | omega | decide, by first | omega | decide⟩, x2, x3, x4, x5, fn6, by first | omega | decide, by first | omega | decide, by rw [ht]; exact hP9, va_K.moved hW.alike hK9, hD9⟩, hS.F ht⟩) hS.2.2 dX3_readTruth_10
