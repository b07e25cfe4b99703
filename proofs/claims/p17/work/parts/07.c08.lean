def q_X3_readSum : List Cond := .code yX3_readSum cX3_readSum 4 (some .boolean) :: (([.code yX3_readTerm cX3_readTerm 4 (some .boolean), .code yX3_readAtom cX3_readAtom 4 (some .boolean), .fieldLink RX3 19 "LeftArguments$LawReader" "tape" "LLeftArguments$Tape;", .code yX10_next cX10_next 1 (some .int), .fieldLink RX10 19 "LeftArguments$Tape" "at" "I", .fieldLink RX10 15 "LeftArguments$Tape" "used" "I", .fieldLink RX10 9 "LeftArguments$Tape" "bytes" "[I", .initialized RX10, .instanceMethod yX10_next, .selects RX10 yX10_next yX10_next, .methodLink RX3 48 yX10_next, .code yX10_isDigit cX10_isDigit 1 (some .boolean), .static yX10_isDigit, .methodLink RX3 92 yX10_isDigit, .code yX10_step cX10_step 1 none, .instanceMethod yX10_step, .selects RX10 yX10_step yX10_step, .methodLink RX3 77 yX10_step, .code yX3_write cX3_write 3 none, .fieldLink RX3 15 "LeftArguments$LawReader" "used" "I", .fieldLink RX3 11 "LeftArguments$LawReader" "code" "[I", .initialized RX3, .instanceMethod yX3_write, .selects RX3 yX3_write yX3_write, .methodLink RX3 66 yX3_write, .code yX10_wrongHere cX10_wrongHere 1 (some .boolean), .fieldLink RX10 22 "LeftArguments$Tape" "wrongAt" "I", .instanceMethod yX10_wrongHere, .selects RX10 yX10_wrongHere yX10_wrongHere, .methodLink RX3 83 yX10_wrongHere, .code yJ0_indexOf_0f7a4 cJ0_indexOf_0f7a4 2 (some .int), .code yJ0_indexOf_7cf53 cJ0_indexOf_7cf53 3 (some .int), .code yJ0_isLatin1_aae02 cJ0_isLatin1_aae02 1 (some .boolean), .fieldLink RJ0 38 "java/lang/String" "COMPACT_STRINGS" "Z", .fieldLink RJ0 15 "java/lang/String" "coder" "B", .initialized RJ0, .instanceMethod yJ0_isLatin1_aae02, .selects RJ0 yJ0_isLatin1_aae02 yJ0_isLatin1_aae02, .methodLink RJ0 492 yJ0_isLatin1_aae02, .fieldLink RJ0 9 "java/lang/String" "value" "[B", .code yJ0_length_8abf5 cJ0_length_8abf5 1 (some .int), .code yJ0_coder_7d493 cJ0_coder_7d493 1 (some .byte), .instanceMethod yJ0_coder_7d493, .selects RJ0 yJ0_coder_7d493 yJ0_coder_7d493, .methodLink RJ0 335 yJ0_coder_7d493, .instanceMethod yJ0_length_8abf5, .selects RJ0 yJ0_length_8abf5 yJ0_length_8abf5, .methodLink RJ0 505 yJ0_length_8abf5, .code yJ1_indexOf_4cfef cJ1_indexOf_4cfef 4 (some .int), .code yJ1_canEncode_9a6ad cJ1_canEncode_9a6ad 1 (some .boolean), .initialized RJ1, .static yJ1_canEncode_9a6ad, .methodLink RJ1 88 yJ1_canEncode_9a6ad, .methodLink RJ1 92 Lib.Math.max.name, .static Lib.Math.max.name, .initialized "java/lang/Math", .code Lib.Math.max.name Lib.Math.max.code 2 (some .int), .methodLink RJ1 38 Lib.Math.min.name, .static Lib.Math.min.name, .code Lib.Math.min.name Lib.Math.min.code 2 (some .int), .code yJ1_indexOfChar_4cfef cJ1_indexOfChar_4cfef 6 (some .int), .static yJ1_indexOfChar_4cfef, .methodLink RJ1 95 yJ1_indexOfChar_4cfef, .static yJ1_indexOf_4cfef, .methodLink RJ0 637 yJ1_indexOf_4cfef, .instanceMethod yJ0_indexOf_7cf53, .selects RJ0 yJ0_indexOf_7cf53 yJ0_indexOf_7cf53, .methodLink RJ0 633 yJ0_indexOf_7cf53, .instanceMethod yJ0_indexOf_0f7a4, .selects RJ0 yJ0_indexOf_0f7a4 yJ0_indexOf_0f7a4, .methodLink RX3 103 yJ0_indexOf_0f7a4, .code yX10_takeNumber cX10_takeNumber 3 (some .boolean), .methodLink RX10 37 yX10_next, .methodLink RX10 45 yX10_isDigit, .fieldLink RX10 25 "LeftArguments$Tape" "number" "I", .code yX10_sign cX10_sign 1 (some .int), .instanceMethod yX10_sign, .selects RX10 yX10_sign yX10_sign, .methodLink RX10 49 yX10_sign, .methodLink RX10 41 yX10_wrongHere, .instanceMethod yX10_takeNumber, .selects RX10 yX10_takeNumber yX10_takeNumber, .methodLink RX3 95 yX10_takeNumber, .code yX10_number cX10_number 1 (some .int), .instanceMethod yX10_number, .selects RX10 yX10_number yX10_number, .methodLink RX3 98 yX10_number, .instanceMethod yX3_readAtom, .selects RX3 yX3_readAtom yX3_readAtom, .methodLink RX3 89 yX3_readAtom, .instanceMethod yX3_readTerm, .selects RX3 yX3_readTerm yX3_readTerm, .methodLink RX3 86 yX3_readTerm] : List Cond) ++ wsX30 ++ wsX100)
set_option maxRecDepth 20000 in
theorem g_X3_readSum_0 : GoodIn q_X3_readSum (wsV RX3 86 RX3 yX3_readTerm q_X3_readTerm) := goodIn_app (goodIn_r _ [93, 91, 92, 22] rfl (by decide +kernel)) (goodIn_ca (goodIn_ca (goodIn_r (.code yX3_readTerm cX3_readTerm 4 (some .boolean) :: [.code yX3_readAtom cX3_readAtom 4 (some .boolean), .fieldLink RX3 19 "LeftArguments$LawReader" "tape" "LLeftArguments$Tape;", .code yX10_next cX10_next 1 (some .int), .fieldLink RX10 19 "LeftArguments$Tape" "at" "I", .fieldLink RX10 15 "LeftArguments$Tape" "used" "I", .fieldLink RX10 9 "LeftArguments$Tape" "bytes" "[I", .initialized RX10, .instanceMethod yX10_next, .selects RX10 yX10_next yX10_next, .methodLink RX3 48 yX10_next, .code yX10_isDigit cX10_isDigit 1 (some .boolean), .static yX10_isDigit, .methodLink RX3 92 yX10_isDigit, .code yX10_step cX10_step 1 none, .instanceMethod yX10_step, .selects RX10 yX10_step yX10_step, .methodLink RX3 77 yX10_step, .code yX3_write cX3_write 3 none, .fieldLink RX3 15 "LeftArguments$LawReader" "used" "I", .fieldLink RX3 11 "LeftArguments$LawReader" "code" "[I", .initialized RX3, .instanceMethod yX3_write, .selects RX3 yX3_write yX3_write, .methodLink RX3 66 yX3_write, .code yX10_wrongHere cX10_wrongHere 1 (some .boolean), .fieldLink RX10 22 "LeftArguments$Tape" "wrongAt" "I", .instanceMethod yX10_wrongHere, .selects RX10 yX10_wrongHere yX10_wrongHere, .methodLink RX3 83 yX10_wrongHere, .code yJ0_indexOf_0f7a4 cJ0_indexOf_0f7a4 2 (some .int), .code yJ0_indexOf_7cf53 cJ0_indexOf_7cf53 3 (some .int), .code yJ0_isLatin1_aae02 cJ0_isLatin1_aae02 1 (some .boolean), .fieldLink RJ0 38 "java/lang/String" "COMPACT_STRINGS" "Z", .fieldLink RJ0 15 "java/lang/String" "coder" "B", .initialized RJ0, .instanceMethod yJ0_isLatin1_aae02, .selects RJ0 yJ0_isLatin1_aae02 yJ0_isLatin1_aae02, .methodLink RJ0 492 yJ0_isLatin1_aae02, .fieldLink RJ0 9 "java/lang/String" "value" "[B", .code yJ0_length_8abf5 cJ0_length_8abf5 1 (some .int), .code yJ0_coder_7d493 cJ0_coder_7d493 1 (some .byte), .instanceMethod yJ0_coder_7d493, .selects RJ0 yJ0_coder_7d493 yJ0_coder_7d493, .methodLink RJ0 335 yJ0_coder_7d493, .instanceMethod yJ0_length_8abf5, .selects RJ0 yJ0_length_8abf5 yJ0_length_8abf5, .methodLink RJ0 505 yJ0_length_8abf5, .code yJ1_indexOf_4cfef cJ1_indexOf_4cfef 4 (some .int), .code yJ1_canEncode_9a6ad cJ1_canEncode_9a6ad 1 (some .boolean), .initialized RJ1, .static yJ1_canEncode_9a6ad, .methodLink RJ1 88 yJ1_canEncode_9a6ad, .methodLink RJ1 92 Lib.Math.max.name, .static Lib.Math.max.name, .initialized "java/lang/Math", .code Lib.Math.max.name Lib.Math.max.code 2 (some .int), .methodLink RJ1 38 Lib.Math.min.name, .static Lib.Math.min.name, .code Lib.Math.min.name Lib.Math.min.code 2 (some .int), .code yJ1_indexOfChar_4cfef cJ1_indexOfChar_4cfef 6 (some .int), .static yJ1_indexOfChar_4cfef, .methodLink RJ1 95 yJ1_indexOfChar_4cfef, .static yJ1_indexOf_4cfef, .methodLink RJ0 637 yJ1_indexOf_4cfef, .instanceMethod yJ0_indexOf_7cf53, .selects RJ0 yJ0_indexOf_7cf53 yJ0_indexOf_7cf53, .methodLink RJ0 633 yJ0_indexOf_7cf53, .instanceMethod yJ0_indexOf_0f7a4, .selects RJ0 yJ0_indexOf_0f7a4 yJ0_indexOf_0f7a4, .methodLink RX3 103 yJ0_indexOf_0f7a4, .code yX10_takeNumber cX10_takeNumber 3 (some .boolean), .methodLink RX10 37 yX10_next, .methodLink RX10 45 yX10_isDigit, .fieldLink RX10 25 "LeftArguments$Tape" "number" "I", .code yX10_sign cX10_sign 1 (some .int), .instanceMethod yX10_sign, .selects RX10 yX10_sign yX10_sign, .methodLink RX10 49 yX10_sign, .methodLink RX10 41 yX10_wrongHere, .instanceMethod yX10_takeNumber, .selects RX10 yX10_takeNumber yX10_takeNumber, .methodLink RX3 95 yX10_takeNumber, .code yX10_number cX10_number 1 (some .int), .instanceMethod yX10_number, .selects RX10 yX10_number yX10_number, .methodLink RX3 98 yX10_number, .instanceMethod yX3_readAtom, .selects RX3 yX3_readAtom yX3_readAtom, .methodLink RX3 89 yX3_readAtom]) [1, 2, 3, 4, 5, 6, 7, 8, 9, 10, 11, 12, 13, 14, 15, 16, 17, 18, 19, 20, 21, 22, 23, 24, 25, 26, 27, 28, 29, 30, 31, 32, 33, 34, 35, 36, 37, 38, 39, 40, 41, 42, 43, 44, 45, 46, 47, 48, 49, 50, 51, 52, 53, 54, 55, 56, 57, 58, 59, 60, 61, 62, 63, 64, 65, 66, 67, 68, 69, 70, 71, 72, 73, 74, 75, 76, 77, 78, 79, 80, 81, 82, 83, 84, 85, 86, 87, 88, 89, 90] rfl (by decide +kernel)) (goodIn_sub (fun _ h => List.mem_cons_of_mem _ (List.mem_append_left _ (List.mem_append_right _ h))) gwX3)) (goodIn_sub (fun _ h => List.mem_cons_of_mem _ (List.mem_append_right _ h)) gwX10))
set_option maxRecDepth 20000 in
theorem g_X3_readSum_1 : GoodIn q_X3_readSum (wsV RX3 48 RX10 yX10_next q_X10_next) := goodIn_app (goodIn_r _ [11, 9, 10, 8] rfl (by decide +kernel)) (goodIn_ca (goodIn_r (.code yX10_next cX10_next 1 (some .int) :: [.fieldLink RX10 19 "LeftArguments$Tape" "at" "I", .fieldLink RX10 15 "LeftArguments$Tape" "used" "I", .fieldLink RX10 9 "LeftArguments$Tape" "bytes" "[I"]) [4, 5, 6, 7] rfl (by decide +kernel)) (goodIn_sub (fun _ h => List.mem_cons_of_mem _ (List.mem_append_right _ h)) gwX10))
set_option maxRecDepth 20000 in
theorem g_X3_readSum_2 : GoodIn q_X3_readSum (wsV RX3 77 RX10 yX10_step q_X10_step) := goodIn_app (goodIn_r _ [18, 16, 17, 8] rfl (by decide +kernel)) (goodIn_ca (goodIn_r (.code yX10_step cX10_step 1 none :: [.fieldLink RX10 19 "LeftArguments$Tape" "at" "I"]) [15, 5] rfl (by decide +kernel)) (goodIn_sub (fun _ h => List.mem_cons_of_mem _ (List.mem_append_right _ h)) gwX10))
set_option maxRecDepth 20000 in
theorem g_X3_readSum_4 : GoodIn q_X3_readSum (wsV RX3 66 RX3 yX3_write q_X3_write) := goodIn_app (goodIn_r _ [25, 23, 24, 22] rfl (by decide +kernel)) (goodIn_ca (goodIn_r (.code yX3_write cX3_write 3 none :: [.fieldLink RX3 15 "LeftArguments$LawReader" "used" "I", .fieldLink RX3 11 "LeftArguments$LawReader" "code" "[I"]) [19, 20, 21] rfl (by decide +kernel)) (goodIn_sub (fun _ h => List.mem_cons_of_mem _ (List.mem_append_left _ (List.mem_append_right _ h))) gwX3))
set_option maxHeartbeats 4000000 in
set_option maxRecDepth 100000 in
theorem k_X3_readSum (l : Launch) (dC : Nat → ClassId) (dI : Nat → Nat → Nat) (adK : Nat → Nat) (adV : Nat → Nat) (h0 : Nat) (h1 : Nat) (h2 : Nat) (h3 : Nat) (v0 : Int32) (v1 : Int32) (v2 : Int32) (v3 : Int32) (v4 : Int32) (g0 : ClassId) (f5 : Nat → Int32) (g1 : ClassId) (f6 : Nat → Int32) (i_v0 : 0 ≤ v0.toInt ∧ v0.toInt ≤ 256) (i_v1 : 0 ≤ v1.toInt ∧ v1.toInt ≤ 240) (sz : Nat) : Met l yX3_readSum q_X3_readSum ({ frames := 6, cells := 0, slots := 0, locals := 137 }) (va_Pc [.ref h0, .int 6] (fun U => U.heap.size = sz ∧ va_P (dC, dI) vwCl (wd_1ad0248d h0 h1 h3 v0 h1 h2 v1 v2 v3 v4 h2 g0 f5 h3 g1 f6) U.heap ∧ va_K (dC, dI) vwCl [(g0, .int), (g1, .int)] U ∧ va_D (fun _ => True) (wd_1ad0248d h0 h1 h3 v0 h1 h2 v1 v2 v3 v4 h2 g0 f5 h3 g1 f6) ∧ vk_R RX3 101 "zaondt" (adK 2) U ∧ va_Z "java/lang/String" "COMPACT_STRINGS" "Z" (.int 1) (va_A (wd_1ad0248d h0 h1 h3 v0 h1 h2 v1 v2 v3 v4 h2 g0 f5 h3 g1 f6) sz) U U.heap ∧ vk_S 3 pv_len3 pv_byt3 adK adV (va_A (wd_1ad0248d h0 h1 h3 v0 h1 h2 v1 v2 v3 v4 h2 g0 f5 h3 g1 f6) sz) U U.heap)) (va_Qi (fun (r : Int32) (_ : Unit) => 0 ≤ r.toInt ∧ r.toInt ≤ 1) (fun (_ : Unit) (t : State) => ∃ (o_h0_2 : Int32) (o_h1_2 : Int32) (o_h1_3 : Int32) (o_h1_4 : Int32) (o_h3 : Nat → Int32), 0 ≤ o_h0_2.toInt ∧ o_h0_2.toInt ≤ 256 ∧ va_P (dC, dI) vwCl (wd_1ad0248d h0 h1 h3 o_h0_2 h1 h2 v1 o_h1_2 o_h1_3 o_h1_4 h2 g0 f5 h3 g1 o_h3) t.heap ∧ va_K (dC, dI) vwCl [] t ∧ va_D (va_A (wd_1ad0248d h0 h1 h3 v0 h1 h2 v1 v2 v3 v4 h2 g0 f5 h3 g1 f6) sz) (wd_1ad0248d h0 h1 h3 o_h0_2 h1 h2 v1 o_h1_2 o_h1_3 o_h1_4 h2 g0 f5 h3 g1 o_h3)) (va_A (wd_1ad0248d h0 h1 h3 v0 h1 h2 v1 v2 v3 v4 h2 g0 f5 h3 g1 f6) sz)) 0 0 (va_A (wd_1ad0248d h0 h1 h3 v0 h1 h2 v1 v2 v3 v4 h2 g0 f5 h3 g1 f6) sz) := by
  refine Met.ofW (cc := cX3_readSum) (maxL := 4) (ret := (some .boolean)) (by decide) rfl ?_
  intro p e s m args below meth c s₁ B hml hv
  obtain ⟨i_v0a, i_v0b⟩ := i_v0
  obtain ⟨i_v1a, i_v1b⟩ := i_v1
  obtain ⟨rfl, hsz, hP, hK, hD0, h_vr_2, h_st_CS, h_st_S⟩ := hv
  have hx := B.exec
  have hb := B.bytes
  have hr := B.returns
  have hts := atoms_spec (ws := q_X3_readSum) B.pre
  have hown : s.vm.findClass RX3 = some m.cls := findClass_of_methodNamed B.named
  have hlocks := B.notSynchronized
  subst hsz
  have hD := hD0.self (sz := s.heap.size)
  generalize hAe : va_A (wd_1ad0248d h0 h1 h3 v0 h1 h2 v1 v2 v3 v4 h2 g0 f5 h3 g1 f6) s.heap.size = A at hD h_st_CS h_st_S ⊢
  have hA : ∀ q : Nat, s.heap.size ≤ q → A q := fun q h => by rw [← hAe]; exact Or.inr h
  have hS : va_S A s.heap s.heap [] := va_S.rf
  generalize hQ : (MQ below _ _ s 0 0 A) = Q
  have hl := lv_entry ([.ref h0, .int 6]) (n := 4) (Nat.le_of_ble_eq_true rfl)
  rw [lg_entry_eq]
  generalize (lg_sl ([.ref h0, .int 6]) ++ List.replicate (4 - (lg_sl ([.ref h0, .int 6])).length) Slot.unset).toArray = ls at hl ⊢
  have hl : lv_has ls 4 [(0, .ref h0), (1, .int 6)] := hl
  obtain ⟨H, hH⟩ : ∃ H : Heap, H = s.heap := ⟨_, rfl⟩
  obtain ⟨locs, hlocs⟩ : ∃ y : List Loc, y = [] := ⟨_, rfl⟩
  have hS : va_S A s.heap H locs := by rw [hH, hlocs]; exact va_S.rf
  have hP : va_P (dC, dI) vwCl (wd_1ad0248d h0 h1 h3 v0 h1 h2 v1 v2 v3 v4 h2 g0 f5 h3 g1 f6) H := by rw [hH]; exact hP
  rw [← hH, ← hlocs]
  refine lv_aload_n hx hb dX3_readSum_0 rfl (lv_at hl 0 rfl) ?_
  refine lv_iload_n hx hb dX3_readSum_1 rfl (lv_at hl 1 rfl) ?_
  have hPc := hP.sub (ws' := (wd_1ad0248d h0 h1 h3 v0 h1 h2 v1 v2 v3 v4 h2 g0 f5 h3 g1 f6)) [0, 1, 2, 3] rfl
  have hDc := hD.sub (ws' := (wd_1ad0248d h0 h1 h3 v0 h1 h2 v1 v2 v3 v4 h2 g0 f5 h3 g1 f6)) [0, 1, 2, 3] (by decide) rfl
  have hKc := hK.sub (tys' := [(g0, .int), (g1, .int)]) [0, 1] rfl
  have hFc := va_free (wc := (wd_1ad0248d h0 h1 h3 v0 h1 h2 v1 v2 v3 v4 h2 g0 f5 h3 g1 f6)) hD hS hA [0, 1, 2, 3] rfl
  refine va_calli (va_runV (As := [.int 6]) (rest := []) ⟨hx, hb, hml, hown, hts⟩ (k_X3_readTerm l dC dI adK adV h0 h1 h2 h3 v0 v1 v2 v3 v4 g0 f5 g1 f6 ⟨by first | omega | decide, by first | omega | decide⟩ ⟨by first | omega | decide, by first | omega | decide⟩ H.size) (cwV 1 hts g_X3_readSum_0 rfl rfl rfl (by decide +kernel) ⟨Nat.le_of_ble_eq_true rfl, Nat.le_of_ble_eq_true rfl⟩) ⟨fun a U g mk q => by obtain ⟨q0, q1, qP, qK, qD, n0, n1, n2⟩ := q; exact ⟨q0, q1, qP, va_K.moved (u := U) (U := U.calling g mk a) (Vm.Alike.refl U.vm) qK, qD, vk_R.same rfl n0, va_Z.moved (Vm.Alike.refl _) n1, vk_S.moved (Vm.Alike.refl _) n2⟩, va_recv hKc hPc (ci := 3) (q0 := 0) rfl rfl, fun U hU hW => ⟨rfl, by rw [hU], by rw [hU]; exact hPc, va_K.moved hW.alike hKc, hDc.weaken (fun _ _ _ _ => trivial), vk_R.warm hW h_vr_2, (by rw [hU]; exact (va_Z.moved hW.alike (va_Z.kept h_st_CS hS.2.1)).narrow hFc), (by rw [hU]; exact (vk_S.moved hW.alike (vk_S.kept h_st_S hS.2.1)).narrow hFc)⟩⟩ rfl rfl hl.1 rfl (lv_room (Nat.le_of_ble_eq_true rfl)) dX3_readSum_2 ⟨Nat.le_of_ble_eq_true rfl, Nat.le_of_ble_eq_true rfl⟩) hS (fun q _ h => hFc q h) hFc (fun ra1 u t H1 locs ht hvm hwra1 hB hz1 hk1 hS => ?_)
  obtain ⟨x2, x3, x4, x5, fn6, oa_x2, ob_x2, hP1, hK1, hD1⟩ := hB
  rw [ht] at hP1
  obtain ⟨hP, hD⟩ := va_join (wr := []) (w1 := (wd_1ad0248d h0 h1 h3 x2 h1 h2 v1 x3 x4 x5 h2 g0 f5 h3 g1 fn6)) hP hD [0, 1, 2, 3] [] rfl rfl (by decide) (by decide) hk1 hFc hP1 hD1
  generalize H1 = H at hP hS ⊢
  have hP : va_P (dC, dI) vwCl (wd_1ad0248d h0 h1 h3 x2 h1 h2 v1 x3 x4 x5 h2 g0 f5 h3 g1 fn6) H := hP
  have hD : va_D A (wd_1ad0248d h0 h1 h3 x2 h1 h2 v1 x3 x4 x5 h2 g0 f5 h3 g1 fn6) := hD
  obtain ⟨wa_ra1, wb_ra1⟩ := hwra1
  have wa_ra1 : 0 ≤ ra1.toInt := wa_ra1
  have wb_ra1 : ra1.toInt ≤ 1 := wb_ra1
  refine lv_if_ne (tgt := 10) hx hb dX3_readSum_5 (by decide) (fun c7 => ?_) (fun c7 => ?_)
  · skip
    have fc7 : ¬ (ra1.toInt = 0) := fun h9 => c7 (Int32.toInt_inj.mp h9)
    refine lv_iconst (v := 0) hx hb dX3_readSum_10 (by decide) ?_
    refine lv_istore_n (lv' := [(2, .int 0), (0, .ref h0), (1, .int 6)]) hx hb dX3_readSum_11 rfl hl (by decide) rfl (fun ls hl => ?_)
    have hL104 : ∀ (n9 : Nat), ∀ (x92 : Int32) (x93 : Int32) (x94 : Int32) (x95 : Int32) (x96 : Int32) (fn97 : Nat → Int32) (H : Heap) (locs : List Loc) (ls : Array Slot), 0 ≤ x92.toInt → x92.toInt ≤ 240 → 0 ≤ x93.toInt → x93.toInt ≤ 256 → (240 - x92.toInt).toNat < n9 → va_P (dC, dI) vwCl (wd_1ad0248d h0 h1 h3 x93 h1 h2 v1 x94 x95 x96 h2 g0 f5 h3 g1 fn97) H → va_D A (wd_1ad0248d h0 h1 h3 x93 h1 h2 v1 x94 x95 x96 h2 g0 f5 h3 g1 fn97) → va_S A s.heap H locs → lv_has ls 4 [(2, .int x92), (0, .ref h0), (1, .int 6)] → W p l e ({ frames := 6, cells := 0, slots := 0, locals := 137 }) s m ([.ref h0, .int 6] : List Value).toArray below meth c H locs 0 0 Q (F0 m 12 ls []) := by
      intro n9
      induction n9 with
      | zero => intro x92 x93 x94 x95 x96 fn97 H locs ls qa_x92 qb_x92 qa_x93 qb_x93 hm9 hP hD hS hl; exact absurd hm9 (Nat.not_lt_zero _)
      | succ n9 ih_hL104 =>
        intro x92 x93 x94 x95 x96 fn97 H locs ls qa_x92 qb_x92 qa_x93 qb_x93 hm9 hP hD hS hl
        refine lv_iload_n hx hb dX3_readSum_12 rfl (lv_at hl 0 rfl) ?_
        refine lv_sipush (v := 240) hx hb dX3_readSum_13 (by decide) ?_
        refine lv_icmp_ge (tgt := 80) hx hb dX3_readSum_16 (by decide) (fun c105 => ?_) (fun c105 => ?_)
        · skip
          have fc105 : 240 ≤ x92.toInt := Int32.le_iff_toInt_le.mp c105
          refine lv_iconst (v := 1) hx hb dX3_readSum_80 (by decide) ?_
          subst hQ
          have hP9 := hP.sub (ws' := (wd_1ad0248d h0 h1 h3 x93 h1 h2 v1 x94 x95 x96 h2 g0 f5 h3 g1 fn97)) [0, 1, 2, 3] rfl
          have hD9 := hD.sub (ws' := (wd_1ad0248d h0 h1 h3 x93 h1 h2 v1 x94 x95 x96 h2 g0 f5 h3 g1 fn97)) [0, 1, 2, 3] (by decide) rfl
          have hK9 := hK.sub (tys' := []) [] rfl
          exact W.zret (v := 1) hx hb hr rfl (fun t ht hW => ⟨⟨1, (), rfl, ⟨by first | omega | decide, by first | omega | decide⟩, x93, x94, x95, x96, fn97, by first | omega | decide, by first | omega | decide, by rw [ht]; exact hP9, va_K.moved hW.alike hK9, hD9⟩, hS.F ht⟩) hS.2.2 dX3_readSum_81
        · skip
          have fc105 : ¬ (240 ≤ x92.toInt) := fun h9 => c105 (Int32.le_iff_toInt_le.mpr h9)
          refine lv_aload_n hx hb dX3_readSum_19 rfl (lv_at hl 1 rfl) ?_
          refine va_get (D := (dC, dI)) (ci := 3) (v := .ref h1) (C := RX3) (T := TX3) (N := 3) hx hb hts (fun _ h => List.mem_cons_of_mem _ (List.mem_append_left _ (List.mem_append_right _ h))) hown hK hP 0 rfl rfl 0 (by decide) (hts (.fieldLink RX3 19 "LeftArguments$LawReader" "tape" "LLeftArguments$Tape;") (List.mem_cons_of_mem _ (List.mem_append_left _ (List.mem_append_left _ (List.mem_of_getElem? (i := 2) rfl))))) (fun _ h9 => h9) rfl dX3_readSum_20 ?_
          have hPc := hP.sub (ws' := (wd_82cdd16b h1 h2 v1 x94 x95 x96 h2 g0 f5)) [1, 2] rfl
          have hDc := hD.sub (ws' := (wd_82cdd16b h1 h2 v1 x94 x95 x96 h2 g0 f5)) [1, 2] (by decide) rfl
          have hKc := hK.sub (tys' := [(g0, .int)]) [0] rfl
          have hFc := va_free (wc := (wd_82cdd16b h1 h2 v1 x94 x95 x96 h2 g0 f5)) hD hS hA [1, 2] rfl
          refine va_calli (va_runV (As := []) (rest := []) ⟨hx, hb, hml, hown, hts⟩ (k_X10_next l dC dI h1 h2 v1 x94 x95 x96 g0 f5 ⟨by first | omega | decide, by first | omega | decide⟩ H.size) (cwV 0 hts g_X3_readSum_1 rfl rfl rfl (by decide +kernel) ⟨Nat.le_of_ble_eq_true rfl, Nat.le_of_ble_eq_true rfl⟩) ⟨fun a U g mk q => by obtain ⟨q0, q1, qP, qK, qD⟩ := q; exact ⟨q0, q1, qP, va_K.moved (u := U) (U := U.calling g mk a) (Vm.Alike.refl U.vm) qK, qD⟩, va_recv hKc hPc (ci := 10) (q0 := 0) rfl rfl, fun U hU hW => ⟨rfl, by rw [hU], by rw [hU]; exact hPc, va_K.moved hW.alike hKc, hDc.weaken (fun _ _ _ _ => trivial)⟩⟩ rfl rfl hl.1 rfl (lv_room (Nat.le_of_ble_eq_true rfl)) dX3_readSum_23 ⟨Nat.le_of_ble_eq_true rfl, Nat.le_of_ble_eq_true rfl⟩) hS (fun q _ h => hFc q h) hFc (fun ra106 u t H1 locs ht hvm hwra106 hB hz1 hk1 hS => ?_)
          obtain ⟨x107, hP1, hK1, hD1⟩ := hB
          rw [ht] at hP1
          obtain ⟨hP, hD⟩ := va_join (wr := (wd_b958b9da h0 h1 h3 x93 h3 g1 fn97)) (w1 := (wd_82cdd16b h1 h2 v1 x107 x95 x96 h2 g0 f5)) hP hD [1, 2] [0, 3] rfl rfl (by decide) (by decide) hk1 hFc hP1 hD1
          generalize H1 = H at hP hS ⊢
          have hP := hP.sub (ws' := (wd_1ad0248d h0 h1 h3 x93 h1 h2 v1 x107 x95 x96 h2 g0 f5 h3 g1 fn97)) [0, 2, 3, 1] rfl
          have hD := hD.sub (ws' := (wd_1ad0248d h0 h1 h3 x93 h1 h2 v1 x107 x95 x96 h2 g0 f5 h3 g1 fn97)) [0, 2, 3, 1] (by decide) rfl
          have hP : va_P (dC, dI) vwCl (wd_1ad0248d h0 h1 h3 x93 h1 h2 v1 x107 x95 x96 h2 g0 f5 h3 g1 fn97) H := hP
          have hD : va_D A (wd_1ad0248d h0 h1 h3 x93 h1 h2 v1 x107 x95 x96 h2 g0 f5 h3 g1 fn97) := hD
          refine lv_istore_n (lv' := [(3, .int ra106), (2, .int x92), (0, .ref h0), (1, .int 6)]) hx hb dX3_readSum_26 rfl hl (by decide) rfl (fun ls hl => ?_)
          refine lv_iload_n hx hb dX3_readSum_27 rfl (lv_at hl 0 rfl) ?_
          refine lv_bipush (v := 43) hx hb dX3_readSum_28 (by decide) ?_
          refine lv_icmp_eq (tgt := 41) hx hb dX3_readSum_30 (by decide) (fun c108 => ?_) (fun c108 => ?_)
          · skip
            have fc108 : ra106.toInt = 43 := congrArg Int32.toInt c108
            refine lv_aload_n hx hb dX3_readSum_41 rfl (lv_at hl 2 rfl) ?_
            refine va_get (D := (dC, dI)) (ci := 3) (v := .ref h1) (C := RX3) (T := TX3) (N := 3) hx hb hts (fun _ h => List.mem_cons_of_mem _ (List.mem_append_left _ (List.mem_append_right _ h))) hown hK hP 0 rfl rfl 0 (by decide) (hts (.fieldLink RX3 19 "LeftArguments$LawReader" "tape" "LLeftArguments$Tape;") (List.mem_cons_of_mem _ (List.mem_append_left _ (List.mem_append_left _ (List.mem_of_getElem? (i := 2) rfl))))) (fun _ h9 => h9) rfl dX3_readSum_42 ?_
            have hPc := hP.sub (ws' := (wd_09b0abee h1 h2 v1 x107 x95 x96)) [1] rfl
            have hDc := hD.sub (ws' := (wd_09b0abee h1 h2 v1 x107 x95 x96)) [1] (by decide) rfl
            have hKc := hK.sub (tys' := []) [] rfl
            have hFc := va_free (wc := (wd_09b0abee h1 h2 v1 x107 x95 x96)) hD hS hA [1] rfl
            refine va_callv (va_runV (As := []) (rest := []) ⟨hx, hb, hml, hown, hts⟩ (k_X10_step l dC dI h1 h2 v1 x107 x95 x96 ⟨by first | omega | decide, by first | omega | decide⟩ H.size) (cwV 0 hts g_X3_readSum_2 rfl rfl rfl (by decide +kernel) ⟨Nat.le_of_ble_eq_true rfl, Nat.le_of_ble_eq_true rfl⟩) ⟨fun a U g mk q => by obtain ⟨q0, q1, qP, qK, qD⟩ := q; exact ⟨q0, q1, qP, va_K.moved (u := U) (U := U.calling g mk a) (Vm.Alike.refl U.vm) qK, qD⟩, va_recv hKc hPc (ci := 10) (q0 := 0) rfl rfl, fun U hU hW => ⟨rfl, by rw [hU], by rw [hU]; exact hPc, va_K.moved hW.alike hKc, hDc.weaken (fun _ _ _ _ => trivial)⟩⟩ rfl rfl hl.1 rfl (lv_room (Nat.le_of_ble_eq_true rfl)) dX3_readSum_45 ⟨Nat.le_of_ble_eq_true rfl, Nat.le_of_ble_eq_true rfl⟩) hS (fun q _ h => hFc q h) hFc (fun u t H1 locs ht hvm hwra109 hB hz1 hk1 hS => ?_)
            obtain ⟨x110, hP1, hK1, hD1⟩ := hB
            rw [ht] at hP1
            obtain ⟨hP, hD⟩ := va_join (wr := (wd_6b0d8e05 h0 h1 h3 x93 h2 g0 f5 h3 g1 fn97)) (w1 := (wd_09b0abee h1 h2 v1 x110 x95 x96)) hP hD [1] [0, 2, 3] rfl rfl (by decide) (by decide) hk1 hFc hP1 hD1
            generalize H1 = H at hP hS ⊢
            have hP := hP.sub (ws' := (wd_1ad0248d h0 h1 h3 x93 h1 h2 v1 x110 x95 x96 h2 g0 f5 h3 g1 fn97)) [0, 3, 1, 2] rfl
            have hD := hD.sub (ws' := (wd_1ad0248d h0 h1 h3 x93 h1 h2 v1 x110 x95 x96 h2 g0 f5 h3 g1 fn97)) [0, 3, 1, 2] (by decide) rfl
            have hP : va_P (dC, dI) vwCl (wd_1ad0248d h0 h1 h3 x93 h1 h2 v1 x110 x95 x96 h2 g0 f5 h3 g1 fn97) H := hP
            have hD : va_D A (wd_1ad0248d h0 h1 h3 x93 h1 h2 v1 x110 x95 x96 h2 g0 f5 h3 g1 fn97) := hD
            refine lv_aload_n hx hb dX3_readSum_48 rfl (lv_at hl 2 rfl) ?_
            refine lv_iload_n hx hb dX3_readSum_49 rfl (lv_at hl 3 rfl) ?_
            have hPc := hP.sub (ws' := (wd_1ad0248d h0 h1 h3 x93 h1 h2 v1 x110 x95 x96 h2 g0 f5 h3 g1 fn97)) [0, 1, 2, 3] rfl
            have hDc := hD.sub (ws' := (wd_1ad0248d h0 h1 h3 x93 h1 h2 v1 x110 x95 x96 h2 g0 f5 h3 g1 fn97)) [0, 1, 2, 3] (by decide) rfl
            have hKc := hK.sub (tys' := [(g0, .int), (g1, .int)]) [0, 1] rfl
            have hFc := va_free (wc := (wd_1ad0248d h0 h1 h3 x93 h1 h2 v1 x110 x95 x96 h2 g0 f5 h3 g1 fn97)) hD hS hA [0, 1, 2, 3] rfl
            refine va_calli (va_runV (As := [.int 6]) (rest := []) ⟨hx, hb, hml, hown, hts⟩ (k_X3_readTerm l dC dI adK adV h0 h1 h2 h3 x93 v1 x110 x95 x96 g0 f5 g1 fn97 ⟨by first | omega | decide, by first | omega | decide⟩ ⟨by first | omega | decide, by first | omega | decide⟩ H.size) (cwV 1 hts g_X3_readSum_0 rfl rfl rfl (by decide +kernel) ⟨Nat.le_of_ble_eq_true rfl, Nat.le_of_ble_eq_true rfl⟩) ⟨fun a U g mk q => by obtain ⟨q0, q1, qP, qK, qD, n0, n1, n2⟩ := q; exact ⟨q0, q1, qP, va_K.moved (u := U) (U := U.calling g mk a) (Vm.Alike.refl U.vm) qK, qD, vk_R.same rfl n0, va_Z.moved (Vm.Alike.refl _) n1, vk_S.moved (Vm.Alike.refl _) n2⟩, va_recv hKc hPc (ci := 3) (q0 := 0) rfl rfl, fun U hU hW => ⟨rfl, by rw [hU], by rw [hU]; exact hPc, va_K.moved hW.alike hKc, hDc.weaken (fun _ _ _ _ => trivial), vk_R.warm hW h_vr_2, (by rw [hU]; exact (va_Z.moved hW.alike (va_Z.kept h_st_CS hS.2.1)).narrow hFc), (by rw [hU]; exact (vk_S.moved hW.alike (vk_S.kept h_st_S hS.2.1)).narrow hFc)⟩⟩ rfl rfl hl.1 rfl (lv_room (Nat.le_of_ble_eq_true rfl)) dX3_readSum_50 ⟨Nat.le_of_ble_eq_true rfl, Nat.le_of_ble_eq_true rfl⟩) hS (fun q _ h => hFc q h) hFc (fun ra111 u t H1 locs ht hvm hwra111 hB hz1 hk1 hS => ?_)
            obtain ⟨x112, x113, x114, x115, fn116, oa_x112, ob_x112, hP1, hK1, hD1⟩ := hB
            rw [ht] at hP1
            obtain ⟨hP, hD⟩ := va_join (wr := []) (w1 := (wd_1ad0248d h0 h1 h3 x112 h1 h2 v1 x113 x114 x115 h2 g0 f5 h3 g1 fn116)) hP hD [0, 1, 2, 3] [] rfl rfl (by decide) (by decide) hk1 hFc hP1 hD1
            generalize H1 = H at hP hS ⊢
            have hP : va_P (dC, dI) vwCl (wd_1ad0248d h0 h1 h3 x112 h1 h2 v1 x113 x114 x115 h2 g0 f5 h3 g1 fn116) H := hP
            have hD : va_D A (wd_1ad0248d h0 h1 h3 x112 h1 h2 v1 x113 x114 x115 h2 g0 f5 h3 g1 fn116) := hD
            obtain ⟨wa_ra111, wb_ra111⟩ := hwra111
            have wa_ra111 : 0 ≤ ra111.toInt := wa_ra111
            have wb_ra111 : ra111.toInt ≤ 1 := wb_ra111
            refine lv_if_ne (tgt := 58) hx hb dX3_readSum_53 (by decide) (fun c117 => ?_) (fun c117 => ?_)
            · skip
              have fc117 : ¬ (ra111.toInt = 0) := fun h9 => c117 (Int32.toInt_inj.mp h9)
              refine lv_aload_n hx hb dX3_readSum_58 rfl (lv_at hl 2 rfl) ?_
              refine lv_iload_n hx hb dX3_readSum_59 rfl (lv_at hl 0 rfl) ?_
              refine lv_bipush (v := 43) hx hb dX3_readSum_60 (by decide) ?_
              refine lv_icmp_ne (tgt := 69) hx hb dX3_readSum_62 (by decide) (fun c118 => by exfalso; have fc118 : ¬ (ra106.toInt = 43) := fun h9 => c118 (Int32.toInt_inj.mp h9); omega) (fun _ => ?_)
              refine lv_iconst (v := 2) hx hb dX3_readSum_65 (by decide) ?_
              refine lv_goto (tgt := 70) hx hb dX3_readSum_66 (by decide) ?_
              refine lv_iconst (v := 0) hx hb dX3_readSum_70 (by decide) ?_
              have hPc := hP.sub (ws' := (wd_b958b9da h0 h1 h3 x112 h3 g1 fn116)) [0, 3] rfl
              have hDc := hD.sub (ws' := (wd_b958b9da h0 h1 h3 x112 h3 g1 fn116)) [0, 3] (by decide) rfl
              have hKc := hK.sub (tys' := [(g1, .int)]) [1] rfl
              have hFc := va_free (wc := (wd_b958b9da h0 h1 h3 x112 h3 g1 fn116)) hD hS hA [0, 3] rfl
              refine va_callv (va_runV (As := [.int 2, .int 0]) (rest := []) ⟨hx, hb, hml, hown, hts⟩ (k_X3_write l dC dI h0 h3 h1 x112 g1 fn116 2 0 ⟨by first | omega | decide, by first | omega | decide⟩ H.size) (cwV 2 hts g_X3_readSum_4 rfl rfl rfl (by decide +kernel) ⟨Nat.le_of_ble_eq_true rfl, Nat.le_of_ble_eq_true rfl⟩) ⟨fun a U g mk q => by obtain ⟨q0, q1, qP, qK, qD⟩ := q; exact ⟨q0, q1, qP, va_K.moved (u := U) (U := U.calling g mk a) (Vm.Alike.refl U.vm) qK, qD⟩, va_recv hKc hPc (ci := 3) (q0 := 0) rfl rfl, fun U hU hW => ⟨rfl, by rw [hU], by rw [hU]; exact hPc, va_K.moved hW.alike hKc, hDc.weaken (fun _ _ _ _ => trivial)⟩⟩ rfl rfl hl.1 rfl (lv_room (Nat.le_of_ble_eq_true rfl)) dX3_readSum_71 ⟨Nat.le_of_ble_eq_true rfl, Nat.le_of_ble_eq_true rfl⟩) hS (fun q _ h => hFc q h) hFc (fun u t H1 locs ht hvm hwra119 hB hz1 hk1 hS => ?_)
              obtain ⟨x120, fn121, oa_x120, ob_x120, hP1, hK1, hD1⟩ := hB
              rw [ht] at hP1
              obtain ⟨hP, hD⟩ := va_join (wr := (wd_82cdd16b h1 h2 v1 x113 x114 x115 h2 g0 f5)) (w1 := (wd_b958b9da h0 h1 h3 x120 h3 g1 fn121)) hP hD [0, 3] [1, 2] rfl rfl (by decide) (by decide) hk1 hFc hP1 hD1
              generalize H1 = H at hP hS ⊢
              have hP := hP.sub (ws' := (wd_1ad0248d h0 h1 h3 x120 h1 h2 v1 x113 x114 x115 h2 g0 f5 h3 g1 fn121)) [2, 0, 1, 3] rfl
              have hD := hD.sub (ws' := (wd_1ad0248d h0 h1 h3 x120 h1 h2 v1 x113 x114 x115 h2 g0 f5 h3 g1 fn121)) [2, 0, 1, 3] (by decide) rfl
              have hP : va_P (dC, dI) vwCl (wd_1ad0248d h0 h1 h3 x120 h1 h2 v1 x113 x114 x115 h2 g0 f5 h3 g1 fn121) H := hP
              have hD : va_D A (wd_1ad0248d h0 h1 h3 x120 h1 h2 v1 x113 x114 x115 h2 g0 f5 h3 g1 fn121) := hD
              obtain ⟨t122, et122⟩ : ∃ y : Int32, y = x92 + 1 := ⟨_, rfl⟩
              have gt122 : t122.toInt = x92.toInt + (1) := pv_add (a := x92.toInt) (b := (1)) et122 rfl (by decide) (by omega) (by omega)
              refine lv_iinc (v := t122) (lv' := [(2, .int t122), (3, .int ra106), (0, .ref h0), (1, .int 6)]) hx hb dX3_readSum_74 hl (k := 1) rfl (by rw [et122]; rfl) (by decide) rfl (fun ls hl => ?_)
              refine lv_goto (tgt := 12) hx hb dX3_readSum_77 (by decide) ?_
              exact ih_hL104 t122 x120 x113 x114 x115 fn121 H locs ls (by first | omega | decide) (by first | omega | decide) (by first | omega | decide) (by first | omega | decide) (by first | omega | (simp only [Int.toNat] at *; omega)) hP hD hS (lv_sub hl [0, 2, 3] rfl)
            · skip
              have fc117 : ra111.toInt = 0 := congrArg Int32.toInt c117
              refine lv_iconst (v := 0) hx hb dX3_readSum_56 (by decide) ?_
              subst hQ
              have hP9 := hP.sub (ws' := (wd_1ad0248d h0 h1 h3 x112 h1 h2 v1 x113 x114 x115 h2 g0 f5 h3 g1 fn116)) [0, 1, 2, 3] rfl
              have hD9 := hD.sub (ws' := (wd_1ad0248d h0 h1 h3 x112 h1 h2 v1 x113 x114 x115 h2 g0 f5 h3 g1 fn116)) [0, 1, 2, 3] (by decide) rfl
              have hK9 := hK.sub (tys' := []) [] rfl
              exact W.zret (v := 0) hx hb hr rfl (fun t ht hW => ⟨⟨0, (), rfl, ⟨by first | omega | decide, by first | omega | decide⟩, x112, x113, x114, x115, fn116, by first | omega | decide, by first | omega | decide, by rw [ht]; exact hP9, va_K.moved hW.alike hK9, hD9⟩, hS.F ht⟩) hS.2.2 dX3_readSum_57
          · skip
            have fc108 : ¬ (ra106.toInt = 43) := fun h9 => c108 (Int32.toInt_inj.mp h9)
            refine lv_iload_n hx hb dX3_readSum_33 rfl (lv_at hl 0 rfl) ?_
            refine lv_bipush (v := 45) hx hb dX3_readSum_34 (by decide) ?_
            refine lv_icmp_eq (tgt := 41) hx hb dX3_readSum_36 (by decide) (fun c123 => ?_) (fun c123 => ?_)
            · skip
              have fc123 : ra106.toInt = 45 := congrArg Int32.toInt c123
              refine lv_aload_n hx hb dX3_readSum_41 rfl (lv_at hl 2 rfl) ?_
              refine va_get (D := (dC, dI)) (ci := 3) (v := .ref h1) (C := RX3) (T := TX3) (N := 3) hx hb hts (fun _ h => List.mem_cons_of_mem _ (List.mem_append_left _ (List.mem_append_right _ h))) hown hK hP 0 rfl rfl 0 (by decide) (hts (.fieldLink RX3 19 "LeftArguments$LawReader" "tape" "LLeftArguments$Tape;") (List.mem_cons_of_mem _ (List.mem_append_left _ (List.mem_append_left _ (List.mem_of_getElem? (i := 2) rfl))))) (fun _ h9 => h9) rfl dX3_readSum_42 ?_
              have hPc := hP.sub (ws' := (wd_09b0abee h1 h2 v1 x107 x95 x96)) [1] rfl
              have hDc := hD.sub (ws' := (wd_09b0abee h1 h2 v1 x107 x95 x96)) [1] (by decide) rfl
              have hKc := hK.sub (tys' := []) [] rfl
              have hFc := va_free (wc := (wd_09b0abee h1 h2 v1 x107 x95 x96)) hD hS hA [1] rfl
              refine va_callv (va_runV (As := []) (rest := []) ⟨hx, hb, hml, hown, hts⟩ (k_X10_step l dC dI h1 h2 v1 x107 x95 x96 ⟨by first | omega | decide, by first | omega | decide⟩ H.size) (cwV 0 hts g_X3_readSum_2 rfl rfl rfl (by decide +kernel) ⟨Nat.le_of_ble_eq_true rfl, Nat.le_of_ble_eq_true rfl⟩) ⟨fun a U g mk q => by obtain ⟨q0, q1, qP, qK, qD⟩ := q; exact ⟨q0, q1, qP, va_K.moved (u := U) (U := U.calling g mk a) (Vm.Alike.refl U.vm) qK, qD⟩, va_recv hKc hPc (ci := 10) (q0 := 0) rfl rfl, fun U hU hW => ⟨rfl, by rw [hU], by rw [hU]; exact hPc, va_K.moved hW.alike hKc, hDc.weaken (fun _ _ _ _ => trivial)⟩⟩ rfl rfl hl.1 rfl (lv_room (Nat.le_of_ble_eq_true rfl)) dX3_readSum_45 ⟨Nat.le_of_ble_eq_true rfl, Nat.le_of_ble_eq_true rfl⟩) hS (fun q _ h => hFc q h) hFc (fun u t H1 locs ht hvm hwra124 hB hz1 hk1 hS => ?_)
              obtain ⟨x125, hP1, hK1, hD1⟩ := hB
              rw [ht] at hP1
              obtain ⟨hP, hD⟩ := va_join (wr := (wd_6b0d8e05 h0 h1 h3 x93 h2 g0 f5 h3 g1 fn97)) (w1 := (wd_09b0abee h1 h2 v1 x125 x95 x96)) hP hD [1] [0, 2, 3] rfl rfl (by decide) (by decide) hk1 hFc hP1 hD1
              generalize H1 = H at hP hS ⊢
              have hP := hP.sub (ws' := (wd_1ad0248d h0 h1 h3 x93 h1 h2 v1 x125 x95 x96 h2 g0 f5 h3 g1 fn97)) [0, 3, 1, 2] rfl
              have hD := hD.sub (ws' := (wd_1ad0248d h0 h1 h3 x93 h1 h2 v1 x125 x95 x96 h2 g0 f5 h3 g1 fn97)) [0, 3, 1, 2] (by decide) rfl
              have hP : va_P (dC, dI) vwCl (wd_1ad0248d h0 h1 h3 x93 h1 h2 v1 x125 x95 x96 h2 g0 f5 h3 g1 fn97) H := hP
              have hD : va_D A (wd_1ad0248d h0 h1 h3 x93 h1 h2 v1 x125 x95 x96 h2 g0 f5 h3 g1 fn97) := hD
              refine lv_aload_n hx hb dX3_readSum_48 rfl (lv_at hl 2 rfl) ?_
              refine lv_iload_n hx hb dX3_readSum_49 rfl (lv_at hl 3 rfl) ?_
              have hPc := hP.sub (ws' := (wd_1ad0248d h0 h1 h3 x93 h1 h2 v1 x125 x95 x96 h2 g0 f5 h3 g1 fn97)) [0, 1, 2, 3] rfl
              have hDc := hD.sub (ws' := (wd_1ad0248d h0 h1 h3 x93 h1 h2 v1 x125 x95 x96 h2 g0 f5 h3 g1 fn97)) [0, 1, 2, 3] (by decide) rfl
              have hKc := hK.sub (tys' := [(g0, .int), (g1, .int)]) [0, 1] rfl
              have hFc := va_free (wc := (wd_1ad0248d h0 h1 h3 x93 h1 h2 v1 x125 x95 x96 h2 g0 f5 h3 g1 fn97)) hD hS hA [0, 1, 2, 3] rfl
              refine va_calli (va_runV (As := [.int 6]) (rest := []) ⟨hx, hb, hml, hown, hts⟩ (k_X3_readTerm l dC dI adK adV h0 h1 h2 h3 x93 v1 x125 x95 x96 g0 f5 g1 fn97 ⟨by first | omega | decide, by first | omega | decide⟩ ⟨by first | omega | decide, by first | omega | decide⟩ H.size) (cwV 1 hts g_X3_readSum_0 rfl rfl rfl (by decide +kernel) ⟨Nat.le_of_ble_eq_true rfl, Nat.le_of_ble_eq_true rfl⟩) ⟨fun a U g mk q => by obtain ⟨q0, q1, qP, qK, qD, n0, n1, n2⟩ := q; exact ⟨q0, q1, qP, va_K.moved (u := U) (U := U.calling g mk a) (Vm.Alike.refl U.vm) qK, qD, vk_R.same rfl n0, va_Z.moved (Vm.Alike.refl _) n1, vk_S.moved (Vm.Alike.refl _) n2⟩, va_recv hKc hPc (ci := 3) (q0 := 0) rfl rfl, fun U hU hW => ⟨rfl, by rw [hU], by rw [hU]; exact hPc, va_K.moved hW.alike hKc, hDc.weaken (fun _ _ _ _ => trivial), vk_R.warm hW h_vr_2, (by rw [hU]; exact (va_Z.moved hW.alike (va_Z.kept h_st_CS hS.2.1)).narrow hFc), (by rw [hU]; exact (vk_S.moved hW.alike (vk_S.kept h_st_S hS.2.1)).narrow hFc)⟩⟩ rfl rfl hl.1 rfl (lv_room (Nat.le_of_ble_eq_true rfl)) dX3_readSum_50 ⟨Nat.le_of_ble_eq_true rfl, Nat.le_of_ble_eq_true rfl⟩) hS (fun q _ h => hFc q h) hFc (fun ra126 u t H1 locs ht hvm hwra126 hB hz1 hk1 hS => ?_)
              obtain ⟨x127, x128, x129, x130, fn131, oa_x127, ob_x127, hP1, hK1, hD1⟩ := hB
              rw [ht] at hP1
              obtain ⟨hP, hD⟩ := va_join (wr := []) (w1 := (wd_1ad0248d h0 h1 h3 x127 h1 h2 v1 x128 x129 x130 h2 g0 f5 h3 g1 fn131)) hP hD [0, 1, 2, 3] [] rfl rfl (by decide) (by decide) hk1 hFc hP1 hD1
              generalize H1 = H at hP hS ⊢
              have hP : va_P (dC, dI) vwCl (wd_1ad0248d h0 h1 h3 x127 h1 h2 v1 x128 x129 x130 h2 g0 f5 h3 g1 fn131) H := hP
              have hD : va_D A (wd_1ad0248d h0 h1 h3 x127 h1 h2 v1 x128 x129 x130 h2 g0 f5 h3 g1 fn131) := hD
              obtain ⟨wa_ra126, wb_ra126⟩ := hwra126
              have wa_ra126 : 0 ≤ ra126.toInt := wa_ra126
              have wb_ra126 : ra126.toInt ≤ 1 := wb_ra126
              refine lv_if_ne (tgt := 58) hx hb dX3_readSum_53 (by decide) (fun c132 => ?_) (fun c132 => ?_)
              · skip
                have fc132 : ¬ (ra126.toInt = 0) := fun h9 => c132 (Int32.toInt_inj.mp h9)
                refine lv_aload_n hx hb dX3_readSum_58 rfl (lv_at hl 2 rfl) ?_
                refine lv_iload_n hx hb dX3_readSum_59 rfl (lv_at hl 0 rfl) ?_
                refine lv_bipush (v := 43) hx hb dX3_readSum_60 (by decide) ?_
                refine lv_icmp_ne (tgt := 69) hx hb dX3_readSum_62 (by decide) (fun _ => ?_) (fun c133 => by exfalso; have fc133 : ra106.toInt = 43 := congrArg Int32.toInt c133; omega)
                refine lv_iconst (v := 3) hx hb dX3_readSum_69 (by decide) ?_
                refine lv_iconst (v := 0) hx hb dX3_readSum_70 (by decide) ?_
                have hPc := hP.sub (ws' := (wd_b958b9da h0 h1 h3 x127 h3 g1 fn131)) [0, 3] rfl
                have hDc := hD.sub (ws' := (wd_b958b9da h0 h1 h3 x127 h3 g1 fn131)) [0, 3] (by decide) rfl
                have hKc := hK.sub (tys' := [(g1, .int)]) [1] rfl
                have hFc := va_free (wc := (wd_b958b9da h0 h1 h3 x127 h3 g1 fn131)) hD hS hA [0, 3] rfl
                refine va_callv (va_runV (As := [.int 3, .int 0]) (rest := []) ⟨hx, hb, hml, hown, hts⟩ (k_X3_write l dC dI h0 h3 h1 x127 g1 fn131 3 0 ⟨by first | omega | decide, by first | omega | decide⟩ H.size) (cwV 2 hts g_X3_readSum_4 rfl rfl rfl (by decide +kernel) ⟨Nat.le_of_ble_eq_true rfl, Nat.le_of_ble_eq_true rfl⟩) ⟨fun a U g mk q => by obtain ⟨q0, q1, qP, qK, qD⟩ := q; exact ⟨q0, q1, qP, va_K.moved (u := U) (U := U.calling g mk a) (Vm.Alike.refl U.vm) qK, qD⟩, va_recv hKc hPc (ci := 3) (q0 := 0) rfl rfl, fun U hU hW => ⟨rfl, by rw [hU], by rw [hU]; exact hPc, va_K.moved hW.alike hKc, hDc.weaken (fun _ _ _ _ => trivial)⟩⟩ rfl rfl hl.1 rfl (lv_room (Nat.le_of_ble_eq_true rfl)) dX3_readSum_71 ⟨Nat.le_of_ble_eq_true rfl, Nat.le_of_ble_eq_true rfl⟩) hS (fun q _ h => hFc q h) hFc (fun u t H1 locs ht hvm hwra134 hB hz1 hk1 hS => ?_)
                obtain ⟨x135, fn136, oa_x135, ob_x135, hP1, hK1, hD1⟩ := hB
                rw [ht] at hP1
                obtain ⟨hP, hD⟩ := va_join (wr := (wd_82cdd16b h1 h2 v1 x128 x129 x130 h2 g0 f5)) (w1 := (wd_b958b9da h0 h1 h3 x135 h3 g1 fn136)) hP hD [0, 3] [1, 2] rfl rfl (by decide) (by decide) hk1 hFc hP1 hD1
                generalize H1 = H at hP hS ⊢
                have hP := hP.sub (ws' := (wd_1ad0248d h0 h1 h3 x135 h1 h2 v1 x128 x129 x130 h2 g0 f5 h3 g1 fn136)) [2, 0, 1, 3] rfl
                have hD := hD.sub (ws' := (wd_1ad0248d h0 h1 h3 x135 h1 h2 v1 x128 x129 x130 h2 g0 f5 h3 g1 fn136)) [2, 0, 1, 3] (by decide) rfl
                have hP : va_P (dC, dI) vwCl (wd_1ad0248d h0 h1 h3 x135 h1 h2 v1 x128 x129 x130 h2 g0 f5 h3 g1 fn136) H := hP
                have hD : va_D A (wd_1ad0248d h0 h1 h3 x135 h1 h2 v1 x128 x129 x130 h2 g0 f5 h3 g1 fn136) := hD
                obtain ⟨t137, et137⟩ : ∃ y : Int32, y = x92 + 1 := ⟨_, rfl⟩
                have gt137 : t137.toInt = x92.toInt + (1) := pv_add (a := x92.toInt) (b := (1)) et137 rfl (by decide) (by omega) (by omega)
                refine lv_iinc (v := t137) (lv' := [(2, .int t137), (3, .int ra106), (0, .ref h0), (1, .int 6)]) hx hb dX3_readSum_74 hl (k := 1) rfl (by rw [et137]; rfl) (by decide) rfl (fun ls hl => ?_)
                refine lv_goto (tgt := 12) hx hb dX3_readSum_77 (by decide) ?_
                exact ih_hL104 t137 x135 x128 x129 x130 fn136 H locs ls (by first | omega | decide) (by first | omega | decide) (by first | omega | decide) (by first | omega | decide) (by first | omega | (simp only [Int.toNat] at *; omega)) hP hD hS (lv_sub hl [0, 2, 3] rfl)
              · skip
                have fc132 : ra126.toInt = 0 := congrArg Int32.toInt c132
                refine lv_iconst (v := 0) hx hb dX3_readSum_56 (by decide) ?_
                subst hQ
                have hP9 := hP.sub (ws' := (wd_1ad0248d h0 h1 h3 x127 h1 h2 v1 x128 x129 x130 h2 g0 f5 h3 g1 fn131)) [0, 1, 2, 3] rfl
                have hD9 := hD.sub (ws' := (wd_1ad0248d h0 h1 h3 x127 h1 h2 v1 x128 x129 x130 h2 g0 f5 h3 g1 fn131)) [0, 1, 2, 3] (by decide) rfl
                have hK9 := hK.sub (tys' := []) [] rfl
                exact W.zret (v := 0) hx hb hr rfl (fun t ht hW => ⟨⟨0, (), rfl, ⟨by first | omega | decide, by first | omega | decide⟩, x127, x128, x129, x130, fn131, by first | omega | decide, by first | omega | decide, by rw [ht]; exact hP9, va_K.moved hW.alike hK9, hD9⟩, hS.F ht⟩) hS.2.2 dX3_readSum_57
            · skip
              have fc123 : ¬ (ra106.toInt = 45) := fun h9 => c123 (Int32.toInt_inj.mp h9)
              refine lv_iconst (v := 1) hx hb dX3_readSum_39 (by decide) ?_
              subst hQ
              have hP9 := hP.sub (ws' := (wd_1ad0248d h0 h1 h3 x93 h1 h2 v1 x107 x95 x96 h2 g0 f5 h3 g1 fn97)) [0, 1, 2, 3] rfl
              have hD9 := hD.sub (ws' := (wd_1ad0248d h0 h1 h3 x93 h1 h2 v1 x107 x95 x96 h2 g0 f5 h3 g1 fn97)) [0, 1, 2, 3] (by decide) rfl
              have hK9 := hK.sub (tys' := []) [] rfl
              exact W.zret (v := 1) hx hb hr rfl (fun t ht hW => ⟨⟨1, (), rfl, ⟨by first | omega | decide, by first | omega | decide⟩, x93, x107, x95, x96, fn97, by first | omega | decide, by first | omega | decide, by rw [ht]; exact hP9, va_K.moved hW.alike hK9, hD9⟩, hS.F ht⟩) hS.2.2 dX3_readSum_40
    exact hL104 _ 0 x2 x3 x4 x5 fn6 H locs ls (by first | omega | decide) (by first | omega | decide) (by first | omega | decide) (by first | omega | decide) (Nat.lt_succ_self _) hP hD hS (lv_sub hl [0, 1, 2] rfl)
  · skip
    have fc7 : ra1.toInt = 0 := congrArg Int32.toInt c7
    refine lv_iconst (v := 0) hx hb dX3_readSum_8 (by decide) ?_
    subst hQ
    have hP9 := hP.sub (ws' := (wd_1ad0248d h0 h1 h3 x2 h1 h2 v1 x3 x4 x5 h2 g0 f5 h3 g1 fn6)) [0, 1, 2, 3] rfl
    have hD9 := hD.sub (ws' := (wd_1ad0248d h0 h1 h3 x2 h1 h2 v1 x3 x4 x5 h2 g0 f5 h3 g1 fn6)) [0, 1, 2, 3] (by decide) rfl
    have hK9 := hK.sub (tys' := []) [] rfl
    exact W.zret (v := 0) hx hb hr rfl (fun t ht hW => ⟨⟨0, (), rfl, ⟨by first | omega | decide, by first | omega | decide⟩, x2, x3, x4, x5, fn6, by first | omega | decide, by first | omega | decide, by rw [ht]; exact hP9, va_K.moved hW.alike hK9, hD9⟩, hS.F ht⟩) hS.2.2 dX3_readSum_9
def q_X3_readAtom_1 : List Cond := .code yX3_readAtom cX3_readAtom 4 (some .boolean) :: (([.fieldLink RX3 19 "LeftArguments$LawReader" "tape" "LLeftArguments$Tape;", .code yX10_next cX10_next 1 (some .int), .fieldLink RX10 19 "LeftArguments$Tape" "at" "I", .fieldLink RX10 15 "LeftArguments$Tape" "used" "I", .fieldLink RX10 9 "LeftArguments$Tape" "bytes" "[I", .initialized RX10, .instanceMethod yX10_next, .selects RX10 yX10_next yX10_next, .methodLink RX3 48 yX10_next, .code yX10_isDigit cX10_isDigit 1 (some .boolean), .static yX10_isDigit, .methodLink RX3 92 yX10_isDigit, .code yX10_step cX10_step 1 none, .instanceMethod yX10_step, .selects RX10 yX10_step yX10_step, .methodLink RX3 77 yX10_step, .code yX3_write cX3_write 3 none, .fieldLink RX3 15 "LeftArguments$LawReader" "used" "I", .fieldLink RX3 11 "LeftArguments$LawReader" "code" "[I", .initialized RX3, .instanceMethod yX3_write, .selects RX3 yX3_write yX3_write, .methodLink RX3 66 yX3_write, .code yX10_wrongHere cX10_wrongHere 1 (some .boolean), .fieldLink RX10 22 "LeftArguments$Tape" "wrongAt" "I", .instanceMethod yX10_wrongHere, .selects RX10 yX10_wrongHere yX10_wrongHere, .methodLink RX3 83 yX10_wrongHere, .code yJ0_indexOf_0f7a4 cJ0_indexOf_0f7a4 2 (some .int), .code yJ0_indexOf_7cf53 cJ0_indexOf_7cf53 3 (some .int), .code yJ0_isLatin1_aae02 cJ0_isLatin1_aae02 1 (some .boolean), .fieldLink RJ0 38 "java/lang/String" "COMPACT_STRINGS" "Z", .fieldLink RJ0 15 "java/lang/String" "coder" "B", .initialized RJ0, .instanceMethod yJ0_isLatin1_aae02, .selects RJ0 yJ0_isLatin1_aae02 yJ0_isLatin1_aae02, .methodLink RJ0 492 yJ0_isLatin1_aae02, .fieldLink RJ0 9 "java/lang/String" "value" "[B", .code yJ0_length_8abf5 cJ0_length_8abf5 1 (some .int), .code yJ0_coder_7d493 cJ0_coder_7d493 1 (some .byte), .instanceMethod yJ0_coder_7d493, .selects RJ0 yJ0_coder_7d493 yJ0_coder_7d493, .methodLink RJ0 335 yJ0_coder_7d493, .instanceMethod yJ0_length_8abf5, .selects RJ0 yJ0_length_8abf5 yJ0_length_8abf5, .methodLink RJ0 505 yJ0_length_8abf5, .code yJ1_indexOf_4cfef cJ1_indexOf_4cfef 4 (some .int), .code yJ1_canEncode_9a6ad cJ1_canEncode_9a6ad 1 (some .boolean), .initialized RJ1, .static yJ1_canEncode_9a6ad, .methodLink RJ1 88 yJ1_canEncode_9a6ad, .methodLink RJ1 92 Lib.Math.max.name, .static Lib.Math.max.name, .initialized "java/lang/Math", .code Lib.Math.max.name Lib.Math.max.code 2 (some .int), .methodLink RJ1 38 Lib.Math.min.name, .static Lib.Math.min.name, .code Lib.Math.min.name Lib.Math.min.code 2 (some .int), .code yJ1_indexOfChar_4cfef cJ1_indexOfChar_4cfef 6 (some .int), .static yJ1_indexOfChar_4cfef, .methodLink RJ1 95 yJ1_indexOfChar_4cfef, .static yJ1_indexOf_4cfef, .methodLink RJ0 637 yJ1_indexOf_4cfef, .instanceMethod yJ0_indexOf_7cf53, .selects RJ0 yJ0_indexOf_7cf53 yJ0_indexOf_7cf53, .methodLink RJ0 633 yJ0_indexOf_7cf53, .instanceMethod yJ0_indexOf_0f7a4, .selects RJ0 yJ0_indexOf_0f7a4 yJ0_indexOf_0f7a4, .methodLink RX3 103 yJ0_indexOf_0f7a4, .code yX10_takeNumber cX10_takeNumber 3 (some .boolean), .methodLink RX10 37 yX10_next, .methodLink RX10 45 yX10_isDigit, .fieldLink RX10 25 "LeftArguments$Tape" "number" "I", .code yX10_sign cX10_sign 1 (some .int), .instanceMethod yX10_sign, .selects RX10 yX10_sign yX10_sign, .methodLink RX10 49 yX10_sign, .methodLink RX10 41 yX10_wrongHere, .instanceMethod yX10_takeNumber, .selects RX10 yX10_takeNumber yX10_takeNumber, .methodLink RX3 95 yX10_takeNumber, .code yX10_number cX10_number 1 (some .int), .instanceMethod yX10_number, .selects RX10 yX10_number yX10_number, .methodLink RX3 98 yX10_number, .code yX3_readSum cX3_readSum 4 (some .boolean), .code yX3_readTerm cX3_readTerm 4 (some .boolean), .code yX3_readAtom cX3_readAtom 4 (some .boolean), .instanceMethod yX3_readAtom, .selects RX3 yX3_readAtom yX3_readAtom, .methodLink RX3 89 yX3_readAtom, .instanceMethod yX3_readTerm, .selects RX3 yX3_readTerm yX3_readTerm, .methodLink RX3 86 yX3_readTerm, .instanceMethod yX3_readSum, .selects RX3 yX3_readSum yX3_readSum, .methodLink RX3 59 yX3_readSum, .code yX10_take cX10_take 2 (some .boolean), .instanceMethod yX10_take, .selects RX10 yX10_take yX10_take, .methodLink RX3 51 yX10_take] : List Cond) ++ wsX30 ++ wsX100)
set_option maxRecDepth 20000 in
theorem g_X3_readAtom_1_0 : GoodIn q_X3_readAtom_1 (wsV RX3 48 RX10 yX10_next q_X10_next) := goodIn_app (goodIn_r _ [9, 7, 8, 6] rfl (by decide +kernel)) (goodIn_ca (goodIn_r (.code yX10_next cX10_next 1 (some .int) :: [.fieldLink RX10 19 "LeftArguments$Tape" "at" "I", .fieldLink RX10 15 "LeftArguments$Tape" "used" "I", .fieldLink RX10 9 "LeftArguments$Tape" "bytes" "[I"]) [2, 3, 4, 5] rfl (by decide +kernel)) (goodIn_sub (fun _ h => List.mem_cons_of_mem _ (List.mem_append_right _ h)) gwX10))
set_option maxRecDepth 20000 in
theorem g_X3_readAtom_1_1 : GoodIn q_X3_readAtom_1 (va_wsS RX3 92 yX10_isDigit q_X10_isDigit) := goodIn_app (goodIn_r _ [12, 11, 6] rfl (by decide +kernel)) (goodIn_r (.code yX10_isDigit cX10_isDigit 1 (some .boolean) :: []) [10] rfl (by decide +kernel))
set_option maxRecDepth 20000 in
theorem g_X3_readAtom_1_2 : GoodIn q_X3_readAtom_1 (wsV RX3 77 RX10 yX10_step q_X10_step) := goodIn_app (goodIn_r _ [16, 14, 15, 6] rfl (by decide +kernel)) (goodIn_ca (goodIn_r (.code yX10_step cX10_step 1 none :: [.fieldLink RX10 19 "LeftArguments$Tape" "at" "I"]) [13, 3] rfl (by decide +kernel)) (goodIn_sub (fun _ h => List.mem_cons_of_mem _ (List.mem_append_right _ h)) gwX10))
set_option maxRecDepth 20000 in
theorem g_X3_readAtom_1_3 : GoodIn q_X3_readAtom_1 (wsV RX3 66 RX3 yX3_write q_X3_write) := goodIn_app (goodIn_r _ [23, 21, 22, 20] rfl (by decide +kernel)) (goodIn_ca (goodIn_r (.code yX3_write cX3_write 3 none :: [.fieldLink RX3 15 "LeftArguments$LawReader" "used" "I", .fieldLink RX3 11 "LeftArguments$LawReader" "code" "[I"]) [17, 18, 19] rfl (by decide +kernel)) (goodIn_sub (fun _ h => List.mem_cons_of_mem _ (List.mem_append_left _ (List.mem_append_right _ h))) gwX3))
set_option maxRecDepth 20000 in
theorem g_X3_readAtom_1_4 : GoodIn q_X3_readAtom_1 (wsV RX3 83 RX10 yX10_wrongHere q_X10_wrongHere) := goodIn_app (goodIn_r _ [28, 26, 27, 6] rfl (by decide +kernel)) (goodIn_ca (goodIn_r (.code yX10_wrongHere cX10_wrongHere 1 (some .boolean) :: [.fieldLink RX10 19 "LeftArguments$Tape" "at" "I", .fieldLink RX10 22 "LeftArguments$Tape" "wrongAt" "I"]) [24, 3, 25] rfl (by decide +kernel)) (goodIn_sub (fun _ h => List.mem_cons_of_mem _ (List.mem_append_right _ h)) gwX10))
set_option maxRecDepth 20000 in
theorem g_X3_readAtom_1_5 : GoodIn q_X3_readAtom_1 (wsV RX3 103 RJ0 yJ0_indexOf_0f7a4 q_J0_indexOf_0f7a4) := goodIn_app (goodIn_r _ [69, 67, 68, 34] rfl (by decide +kernel)) (goodIn_r (.code yJ0_indexOf_0f7a4 cJ0_indexOf_0f7a4 2 (some .int) :: [.code yJ0_indexOf_7cf53 cJ0_indexOf_7cf53 3 (some .int), .code yJ0_isLatin1_aae02 cJ0_isLatin1_aae02 1 (some .boolean), .fieldLink RJ0 38 "java/lang/String" "COMPACT_STRINGS" "Z", .fieldLink RJ0 15 "java/lang/String" "coder" "B", .initialized RJ0, .instanceMethod yJ0_isLatin1_aae02, .selects RJ0 yJ0_isLatin1_aae02 yJ0_isLatin1_aae02, .methodLink RJ0 492 yJ0_isLatin1_aae02, .fieldLink RJ0 9 "java/lang/String" "value" "[B", .code yJ0_length_8abf5 cJ0_length_8abf5 1 (some .int), .code yJ0_coder_7d493 cJ0_coder_7d493 1 (some .byte), .instanceMethod yJ0_coder_7d493, .selects RJ0 yJ0_coder_7d493 yJ0_coder_7d493, .methodLink RJ0 335 yJ0_coder_7d493, .instanceMethod yJ0_length_8abf5, .selects RJ0 yJ0_length_8abf5 yJ0_length_8abf5, .methodLink RJ0 505 yJ0_length_8abf5, .code yJ1_indexOf_4cfef cJ1_indexOf_4cfef 4 (some .int), .code yJ1_canEncode_9a6ad cJ1_canEncode_9a6ad 1 (some .boolean), .initialized RJ1, .static yJ1_canEncode_9a6ad, .methodLink RJ1 88 yJ1_canEncode_9a6ad, .methodLink RJ1 92 Lib.Math.max.name, .static Lib.Math.max.name, .initialized "java/lang/Math", .code Lib.Math.max.name Lib.Math.max.code 2 (some .int), .methodLink RJ1 38 Lib.Math.min.name, .static Lib.Math.min.name, .code Lib.Math.min.name Lib.Math.min.code 2 (some .int), .code yJ1_indexOfChar_4cfef cJ1_indexOfChar_4cfef 6 (some .int), .static yJ1_indexOfChar_4cfef, .methodLink RJ1 95 yJ1_indexOfChar_4cfef, .static yJ1_indexOf_4cfef, .methodLink RJ0 637 yJ1_indexOf_4cfef, .instanceMethod yJ0_indexOf_7cf53, .selects RJ0 yJ0_indexOf_7cf53 yJ0_indexOf_7cf53, .methodLink RJ0 633 yJ0_indexOf_7cf53]) [29, 30, 31, 32, 33, 34, 35, 36, 37, 38, 39, 40, 41, 42, 43, 44, 45, 46, 47, 48, 49, 50, 51, 52, 53, 54, 55, 56, 57, 58, 59, 60, 61, 62, 63, 64, 65, 66] rfl (by decide +kernel))
set_option maxRecDepth 20000 in
theorem g_X3_readAtom_1_6 : GoodIn q_X3_readAtom_1 (wsV RX3 95 RX10 yX10_takeNumber q_X10_takeNumber) := goodIn_app (goodIn_r _ [81, 79, 80, 6] rfl (by decide +kernel)) (goodIn_ca (goodIn_r (.code yX10_takeNumber cX10_takeNumber 3 (some .boolean) :: [.code yX10_next cX10_next 1 (some .int), .fieldLink RX10 19 "LeftArguments$Tape" "at" "I", .fieldLink RX10 15 "LeftArguments$Tape" "used" "I", .fieldLink RX10 9 "LeftArguments$Tape" "bytes" "[I", .initialized RX10, .instanceMethod yX10_next, .selects RX10 yX10_next yX10_next, .methodLink RX10 37 yX10_next, .code yX10_isDigit cX10_isDigit 1 (some .boolean), .static yX10_isDigit, .methodLink RX10 45 yX10_isDigit, .fieldLink RX10 25 "LeftArguments$Tape" "number" "I", .code yX10_sign cX10_sign 1 (some .int), .instanceMethod yX10_sign, .selects RX10 yX10_sign yX10_sign, .methodLink RX10 49 yX10_sign, .code yX10_wrongHere cX10_wrongHere 1 (some .boolean), .fieldLink RX10 22 "LeftArguments$Tape" "wrongAt" "I", .instanceMethod yX10_wrongHere, .selects RX10 yX10_wrongHere yX10_wrongHere, .methodLink RX10 41 yX10_wrongHere]) [70, 2, 3, 4, 5, 6, 7, 8, 71, 10, 11, 72, 73, 74, 75, 76, 77, 24, 25, 26, 27, 78] rfl (by decide +kernel)) (goodIn_sub (fun _ h => List.mem_cons_of_mem _ (List.mem_append_right _ h)) gwX10))
set_option maxRecDepth 20000 in
theorem g_X3_readAtom_1_7 : GoodIn q_X3_readAtom_1 (wsV RX3 98 RX10 yX10_number q_X10_number) := goodIn_app (goodIn_r _ [85, 83, 84, 6] rfl (by decide +kernel)) (goodIn_ca (goodIn_r (.code yX10_number cX10_number 1 (some .int) :: [.fieldLink RX10 25 "LeftArguments$Tape" "number" "I"]) [82, 73] rfl (by decide +kernel)) (goodIn_sub (fun _ h => List.mem_cons_of_mem _ (List.mem_append_right _ h)) gwX10))
set_option maxRecDepth 20000 in
theorem g_X3_readAtom_1_10 : GoodIn q_X3_readAtom_1 (wsV RX3 59 RX3 yX3_readSum q_X3_readSum) := goodIn_app (goodIn_r _ [97, 95, 96, 20] rfl (by decide +kernel)) (goodIn_ca (goodIn_ca (goodIn_r (.code yX3_readSum cX3_readSum 4 (some .boolean) :: [.code yX3_readTerm cX3_readTerm 4 (some .boolean), .code yX3_readAtom cX3_readAtom 4 (some .boolean), .fieldLink RX3 19 "LeftArguments$LawReader" "tape" "LLeftArguments$Tape;", .code yX10_next cX10_next 1 (some .int), .fieldLink RX10 19 "LeftArguments$Tape" "at" "I", .fieldLink RX10 15 "LeftArguments$Tape" "used" "I", .fieldLink RX10 9 "LeftArguments$Tape" "bytes" "[I", .initialized RX10, .instanceMethod yX10_next, .selects RX10 yX10_next yX10_next, .methodLink RX3 48 yX10_next, .code yX10_isDigit cX10_isDigit 1 (some .boolean), .static yX10_isDigit, .methodLink RX3 92 yX10_isDigit, .code yX10_step cX10_step 1 none, .instanceMethod yX10_step, .selects RX10 yX10_step yX10_step, .methodLink RX3 77 yX10_step, .code yX3_write cX3_write 3 none, .fieldLink RX3 15 "LeftArguments$LawReader" "used" "I", .fieldLink RX3 11 "LeftArguments$LawReader" "code" "[I", .initialized RX3, .instanceMethod yX3_write, .selects RX3 yX3_write yX3_write, .methodLink RX3 66 yX3_write, .code yX10_wrongHere cX10_wrongHere 1 (some .boolean), .fieldLink RX10 22 "LeftArguments$Tape" "wrongAt" "I", .instanceMethod yX10_wrongHere, .selects RX10 yX10_wrongHere yX10_wrongHere, .methodLink RX3 83 yX10_wrongHere, .code yJ0_indexOf_0f7a4 cJ0_indexOf_0f7a4 2 (some .int), .code yJ0_indexOf_7cf53 cJ0_indexOf_7cf53 3 (some .int), .code yJ0_isLatin1_aae02 cJ0_isLatin1_aae02 1 (some .boolean), .fieldLink RJ0 38 "java/lang/String" "COMPACT_STRINGS" "Z", .fieldLink RJ0 15 "java/lang/String" "coder" "B", .initialized RJ0, .instanceMethod yJ0_isLatin1_aae02, .selects RJ0 yJ0_isLatin1_aae02 yJ0_isLatin1_aae02, .methodLink RJ0 492 yJ0_isLatin1_aae02, .fieldLink RJ0 9 "java/lang/String" "value" "[B", .code yJ0_length_8abf5 cJ0_length_8abf5 1 (some .int), .code yJ0_coder_7d493 cJ0_coder_7d493 1 (some .byte), .instanceMethod yJ0_coder_7d493, .selects RJ0 yJ0_coder_7d493 yJ0_coder_7d493, .methodLink RJ0 335 yJ0_coder_7d493, .instanceMethod yJ0_length_8abf5, .selects RJ0 yJ0_length_8abf5 yJ0_length_8abf5, .methodLink RJ0 505 yJ0_length_8abf5, .code yJ1_indexOf_4cfef cJ1_indexOf_4cfef 4 (some .int), .code yJ1_canEncode_9a6ad cJ1_canEncode_9a6ad 1 (some .boolean), .initialized RJ1, .static yJ1_canEncode_9a6ad, .methodLink RJ1 88 yJ1_canEncode_9a6ad, .methodLink RJ1 92 Lib.Math.max.name, .static Lib.Math.max.name, .initialized "java/lang/Math", .code Lib.Math.max.name Lib.Math.max.code 2 (some .int), .methodLink RJ1 38 Lib.Math.min.name, .static Lib.Math.min.name, .code Lib.Math.min.name Lib.Math.min.code 2 (some .int), .code yJ1_indexOfChar_4cfef cJ1_indexOfChar_4cfef 6 (some .int), .static yJ1_indexOfChar_4cfef, .methodLink RJ1 95 yJ1_indexOfChar_4cfef, .static yJ1_indexOf_4cfef, .methodLink RJ0 637 yJ1_indexOf_4cfef, .instanceMethod yJ0_indexOf_7cf53, .selects RJ0 yJ0_indexOf_7cf53 yJ0_indexOf_7cf53, .methodLink RJ0 633 yJ0_indexOf_7cf53, .instanceMethod yJ0_indexOf_0f7a4, .selects RJ0 yJ0_indexOf_0f7a4 yJ0_indexOf_0f7a4, .methodLink RX3 103 yJ0_indexOf_0f7a4, .code yX10_takeNumber cX10_takeNumber 3 (some .boolean), .methodLink RX10 37 yX10_next, .methodLink RX10 45 yX10_isDigit, .fieldLink RX10 25 "LeftArguments$Tape" "number" "I", .code yX10_sign cX10_sign 1 (some .int), .instanceMethod yX10_sign, .selects RX10 yX10_sign yX10_sign, .methodLink RX10 49 yX10_sign, .methodLink RX10 41 yX10_wrongHere, .instanceMethod yX10_takeNumber, .selects RX10 yX10_takeNumber yX10_takeNumber, .methodLink RX3 95 yX10_takeNumber, .code yX10_number cX10_number 1 (some .int), .instanceMethod yX10_number, .selects RX10 yX10_number yX10_number, .methodLink RX3 98 yX10_number, .instanceMethod yX3_readAtom, .selects RX3 yX3_readAtom yX3_readAtom, .methodLink RX3 89 yX3_readAtom, .instanceMethod yX3_readTerm, .selects RX3 yX3_readTerm yX3_readTerm, .methodLink RX3 86 yX3_readTerm]) [86, 87, 88, 1, 2, 3, 4, 5, 6, 7, 8, 9, 10, 11, 12, 13, 14, 15, 16, 17, 18, 19, 20, 21, 22, 23, 24, 25, 26, 27, 28, 29, 30, 31, 32, 33, 34, 35, 36, 37, 38, 39, 40, 41, 42, 43, 44, 45, 46, 47, 48, 49, 50, 51, 52, 53, 54, 55, 56, 57, 58, 59, 60, 61, 62, 63, 64, 65, 66, 67, 68, 69, 70, 71, 72, 73, 74, 75, 76, 77, 78, 79, 80, 81, 82, 83, 84, 85, 89, 90, 91, 92, 93, 94] rfl (by decide +kernel)) (goodIn_sub (fun _ h => List.mem_cons_of_mem _ (List.mem_append_left _ (List.mem_append_right _ h))) gwX3)) (goodIn_sub (fun _ h => List.mem_cons_of_mem _ (List.mem_append_right _ h)) gwX10))
set_option maxRecDepth 20000 in
theorem g_X3_readAtom_1_11 : GoodIn q_X3_readAtom_1 (wsV RX3 51 RX10 yX10_take q_X10_take) := goodIn_app (goodIn_r _ [101, 99, 100, 6] rfl (by decide +kernel)) (goodIn_ca (goodIn_r (.code yX10_take cX10_take 2 (some .boolean) :: [.code yX10_next cX10_next 1 (some .int), .fieldLink RX10 19 "LeftArguments$Tape" "at" "I", .fieldLink RX10 15 "LeftArguments$Tape" "used" "I", .fieldLink RX10 9 "LeftArguments$Tape" "bytes" "[I", .initialized RX10, .instanceMethod yX10_next, .selects RX10 yX10_next yX10_next, .methodLink RX10 37 yX10_next, .code yX10_wrongHere cX10_wrongHere 1 (some .boolean), .fieldLink RX10 22 "LeftArguments$Tape" "wrongAt" "I", .instanceMethod yX10_wrongHere, .selects RX10 yX10_wrongHere yX10_wrongHere, .methodLink RX10 41 yX10_wrongHere]) [98, 2, 3, 4, 5, 6, 7, 8, 71, 24, 25, 26, 27, 78] rfl (by decide +kernel)) (goodIn_sub (fun _ h => List.mem_cons_of_mem _ (List.mem_append_right _ h)) gwX10))
set_option maxHeartbeats 4000000 in
set_option maxRecDepth 100000 in
theorem k_X3_readAtom_1 (l : Launch) (dC : Nat → ClassId) (dI : Nat → Nat → Nat) (adK : Nat → Nat) (adV : Nat → Nat) (h0 : Nat) (h1 : Nat) (h2 : Nat) (h3 : Nat) (v0 : Int32) (v1 : Int32) (v2 : Int32) (v3 : Int32) (v4 : Int32) (g0 : ClassId) (f5 : Nat → Int32) (g1 : ClassId) (f6 : Nat → Int32) (i_v0 : 0 ≤ v0.toInt ∧ v0.toInt ≤ 256) (i_v1 : 0 ≤ v1.toInt ∧ v1.toInt ≤ 240) (sz : Nat) : Met l yX3_readAtom q_X3_readAtom_1 ({ frames := 7, cells := 0, slots := 0, locals := 160 }) (va_Pc [.ref h0, .int 5] (fun U => U.heap.size = sz ∧ va_P (dC, dI) vwCl (wd_1ad0248d h0 h1 h3 v0 h1 h2 v1 v2 v3 v4 h2 g0 f5 h3 g1 f6) U.heap ∧ va_K (dC, dI) vwCl [(g0, .int), (g1, .int)] U ∧ va_D (fun _ => True) (wd_1ad0248d h0 h1 h3 v0 h1 h2 v1 v2 v3 v4 h2 g0 f5 h3 g1 f6) ∧ vk_R RX3 101 "zaondt" (adK 2) U ∧ va_Z "java/lang/String" "COMPACT_STRINGS" "Z" (.int 1) (va_A (wd_1ad0248d h0 h1 h3 v0 h1 h2 v1 v2 v3 v4 h2 g0 f5 h3 g1 f6) sz) U U.heap ∧ vk_S 3 pv_len3 pv_byt3 adK adV (va_A (wd_1ad0248d h0 h1 h3 v0 h1 h2 v1 v2 v3 v4 h2 g0 f5 h3 g1 f6) sz) U U.heap)) (va_Qi (fun (r : Int32) (_ : Unit) => 0 ≤ r.toInt ∧ r.toInt ≤ 1) (fun (_ : Unit) (t : State) => ∃ (o_h0_2 : Int32) (o_h1_2 : Int32) (o_h1_3 : Int32) (o_h1_4 : Int32) (o_h3 : Nat → Int32), 0 ≤ o_h0_2.toInt ∧ o_h0_2.toInt ≤ 256 ∧ va_P (dC, dI) vwCl (wd_1ad0248d h0 h1 h3 o_h0_2 h1 h2 v1 o_h1_2 o_h1_3 o_h1_4 h2 g0 f5 h3 g1 o_h3) t.heap ∧ va_K (dC, dI) vwCl [] t ∧ va_D (va_A (wd_1ad0248d h0 h1 h3 v0 h1 h2 v1 v2 v3 v4 h2 g0 f5 h3 g1 f6) sz) (wd_1ad0248d h0 h1 h3 o_h0_2 h1 h2 v1 o_h1_2 o_h1_3 o_h1_4 h2 g0 f5 h3 g1 o_h3)) (va_A (wd_1ad0248d h0 h1 h3 v0 h1 h2 v1 v2 v3 v4 h2 g0 f5 h3 g1 f6) sz)) 0 0 (va_A (wd_1ad0248d h0 h1 h3 v0 h1 h2 v1 v2 v3 v4 h2 g0 f5 h3 g1 f6) sz) := by
  refine Met.ofW (cc := cX3_readAtom) (maxL := 4) (ret := (some .boolean)) (by decide) rfl ?_
  intro p e s m args below meth c s₁ B hml hv
  obtain ⟨i_v0a, i_v0b⟩ := i_v0
  obtain ⟨i_v1a, i_v1b⟩ := i_v1
  obtain ⟨rfl, hsz, hP, hK, hD0, h_vr_2, h_st_CS, h_st_S⟩ := hv
  have hx := B.exec
  have hb := B.bytes
  have hr := B.returns
  have hts := atoms_spec (ws := q_X3_readAtom_1) B.pre
  have hown : s.vm.findClass RX3 = some m.cls := findClass_of_methodNamed B.named
  have hlocks := B.notSynchronized
  subst hsz
  have hD := hD0.self (sz := s.heap.size)
  generalize hAe : va_A (wd_1ad0248d h0 h1 h3 v0 h1 h2 v1 v2 v3 v4 h2 g0 f5 h3 g1 f6) s.heap.size = A at hD h_st_CS h_st_S ⊢
  have hA : ∀ q : Nat, s.heap.size ≤ q → A q := fun q h => by rw [← hAe]; exact Or.inr h
  have hS : va_S A s.heap s.heap [] := va_S.rf
  generalize hQ : (MQ below _ _ s 0 0 A) = Q
  have hl := lv_entry ([.ref h0, .int 5]) (n := 4) (Nat.le_of_ble_eq_true rfl)
  rw [lg_entry_eq]
  generalize (lg_sl ([.ref h0, .int 5]) ++ List.replicate (4 - (lg_sl ([.ref h0, .int 5])).length) Slot.unset).toArray = ls at hl ⊢
  have hl : lv_has ls 4 [(0, .ref h0), (1, .int 5)] := hl
  obtain ⟨H, hH⟩ : ∃ H : Heap, H = s.heap := ⟨_, rfl⟩
  obtain ⟨locs, hlocs⟩ : ∃ y : List Loc, y = [] := ⟨_, rfl⟩
  have hS : va_S A s.heap H locs := by rw [hH, hlocs]; exact va_S.rf
  have hP : va_P (dC, dI) vwCl (wd_1ad0248d h0 h1 h3 v0 h1 h2 v1 v2 v3 v4 h2 g0 f5 h3 g1 f6) H := by rw [hH]; exact hP
  rw [← hH, ← hlocs]
  refine lv_aload_n hx hb dX3_readAtom_0 rfl (lv_at hl 0 rfl) ?_
  refine va_get (D := (dC, dI)) (ci := 3) (v := .ref h1) (C := RX3) (T := TX3) (N := 3) hx hb hts (fun _ h => List.mem_cons_of_mem _ (List.mem_append_left _ (List.mem_append_right _ h))) hown hK hP 0 rfl rfl 0 (by decide) (hts (.fieldLink RX3 19 "LeftArguments$LawReader" "tape" "LLeftArguments$Tape;") (List.mem_cons_of_mem _ (List.mem_append_left _ (List.mem_append_left _ (List.mem_of_getElem? (i := 0) rfl))))) (fun _ h9 => h9) rfl dX3_readAtom_1 ?_
  have hPc := hP.sub (ws' := (wd_82cdd16b h1 h2 v1 v2 v3 v4 h2 g0 f5)) [1, 2] rfl
  have hDc := hD.sub (ws' := (wd_82cdd16b h1 h2 v1 v2 v3 v4 h2 g0 f5)) [1, 2] (by decide) rfl
  have hKc := hK.sub (tys' := [(g0, .int)]) [0] rfl
  have hFc := va_free (wc := (wd_82cdd16b h1 h2 v1 v2 v3 v4 h2 g0 f5)) hD hS hA [1, 2] rfl
  refine va_calli (va_runV (As := []) (rest := []) ⟨hx, hb, hml, hown, hts⟩ (k_X10_next l dC dI h1 h2 v1 v2 v3 v4 g0 f5 ⟨by first | omega | decide, by first | omega | decide⟩ H.size) (cwV 0 hts g_X3_readAtom_1_0 rfl rfl rfl (by decide +kernel) ⟨Nat.le_of_ble_eq_true rfl, Nat.le_of_ble_eq_true rfl⟩) ⟨fun a U g mk q => by obtain ⟨q0, q1, qP, qK, qD⟩ := q; exact ⟨q0, q1, qP, va_K.moved (u := U) (U := U.calling g mk a) (Vm.Alike.refl U.vm) qK, qD⟩, va_recv hKc hPc (ci := 10) (q0 := 0) rfl rfl, fun U hU hW => ⟨rfl, by rw [hU], by rw [hU]; exact hPc, va_K.moved hW.alike hKc, hDc.weaken (fun _ _ _ _ => trivial)⟩⟩ rfl rfl hl.1 rfl (lv_room (Nat.le_of_ble_eq_true rfl)) dX3_readAtom_4 ⟨Nat.le_of_ble_eq_true rfl, Nat.le_of_ble_eq_true rfl⟩) hS (fun q _ h => hFc q h) hFc (fun ra1 u t H1 locs ht hvm hwra1 hB hz1 hk1 hS => ?_)
  obtain ⟨x2, hP1, hK1, hD1⟩ := hB
  rw [ht] at hP1
  obtain ⟨hP, hD⟩ := va_join (wr := (wd_b958b9da h0 h1 h3 v0 h3 g1 f6)) (w1 := (wd_82cdd16b h1 h2 v1 x2 v3 v4 h2 g0 f5)) hP hD [1, 2] [0, 3] rfl rfl (by decide) (by decide) hk1 hFc hP1 hD1
  generalize H1 = H at hP hS ⊢
  have hP := hP.sub (ws' := (wd_1ad0248d h0 h1 h3 v0 h1 h2 v1 x2 v3 v4 h2 g0 f5 h3 g1 f6)) [0, 2, 3, 1] rfl
  have hD := hD.sub (ws' := (wd_1ad0248d h0 h1 h3 v0 h1 h2 v1 x2 v3 v4 h2 g0 f5 h3 g1 f6)) [0, 2, 3, 1] (by decide) rfl
  have hP : va_P (dC, dI) vwCl (wd_1ad0248d h0 h1 h3 v0 h1 h2 v1 x2 v3 v4 h2 g0 f5 h3 g1 f6) H := hP
  have hD : va_D A (wd_1ad0248d h0 h1 h3 v0 h1 h2 v1 x2 v3 v4 h2 g0 f5 h3 g1 f6) := hD
  refine lv_istore_n (lv' := [(2, .int ra1), (0, .ref h0), (1, .int 5)]) hx hb dX3_readAtom_7 rfl hl (by decide) rfl (fun ls hl => ?_)
  refine lv_iload_n hx hb dX3_readAtom_8 rfl (lv_at hl 0 rfl) ?_
  refine lv_bipush (v := 91) hx hb dX3_readAtom_9 (by decide) ?_
  refine lv_icmp_ne (tgt := 55) hx hb dX3_readAtom_11 (by decide) (fun c3 => ?_) (fun c3 => ?_)
  · skip
    have fc3 : ¬ (ra1.toInt = 91) := fun h9 => c3 (Int32.toInt_inj.mp h9)
    refine lv_iload_n hx hb dX3_readAtom_55 rfl (lv_at hl 0 rfl) ?_
    have hPc := hP.sub (ws' := []) [] rfl
    have hDc := hD.sub (ws' := []) [] (by decide) rfl
    have hKc := hK.sub (tys' := []) [] rfl
    have hFc := va_free (wc := []) hD hS hA [] rfl
    refine va_calli (va_runS (As := [.int ra1]) (rest := []) ⟨hx, hb, hml, hown, hts⟩ (k_X10_isDigit l dC dI ra1  H.size) (va_cwS 1 hts g_X3_readAtom_1_1 rfl rfl rfl (by decide +kernel) ⟨Nat.le_of_ble_eq_true rfl, Nat.le_of_ble_eq_true rfl⟩) ⟨fun a U g mk q => by obtain ⟨q0, q1, qP, qK, qD⟩ := q; exact ⟨q0, q1, qP, va_K.moved (u := U) (U := U.calling g mk a) (Vm.Alike.refl U.vm) qK, qD⟩, fun U hU hW => ⟨rfl, by rw [hU], by rw [hU]; exact hPc, va_K.moved hW.alike hKc, hDc.weaken (fun _ _ _ _ => trivial)⟩⟩ rfl rfl hl.1 rfl (lv_room (Nat.le_of_ble_eq_true rfl)) dX3_readAtom_56 ⟨Nat.le_of_ble_eq_true rfl, Nat.le_of_ble_eq_true rfl⟩) hS (fun q _ h => hFc q h) hFc (fun ra4 u t H1 locs ht hvm hwra4 hB hz1 hk1 hS => ?_)
    obtain ⟨hP1, hK1, hD1⟩ := hB
    rw [ht] at hP1
    obtain ⟨hP, hD⟩ := va_join (wr := (wd_1ad0248d h0 h1 h3 v0 h1 h2 v1 x2 v3 v4 h2 g0 f5 h3 g1 f6)) (w1 := []) hP hD [] [0, 1, 2, 3] rfl rfl (by decide) (by decide) hk1 hFc hP1 hD1
    generalize H1 = H at hP hS ⊢
    have hP : va_P (dC, dI) vwCl (wd_1ad0248d h0 h1 h3 v0 h1 h2 v1 x2 v3 v4 h2 g0 f5 h3 g1 f6) H := hP
    have hD : va_D A (wd_1ad0248d h0 h1 h3 v0 h1 h2 v1 x2 v3 v4 h2 g0 f5 h3 g1 f6) := hD
    obtain ⟨wa_ra4, wb_ra4⟩ := hwra4
    have wa_ra4 : 0 ≤ ra4.toInt := wa_ra4
    have wb_ra4 : ra4.toInt ≤ 1 := wb_ra4
    refine lv_if_eq (tgt := 89) hx hb dX3_readAtom_59 (by decide) (fun c5 => ?_) (fun c5 => ?_)
    · skip
      have fc5 : ra4.toInt = 0 := congrArg Int32.toInt c5
      refine lv_iload_n hx hb dX3_readAtom_89 rfl (lv_at hl 0 rfl) ?_
      refine lv_iconst (v := (-1)) hx hb dX3_readAtom_90 (by decide) ?_
      have hJ7 : ∀ (x6 : Int32) (H : Heap) (locs : List Loc) (ls : Array Slot), -1 ≤ x6.toInt → x6.toInt ≤ 5 → va_P (dC, dI) vwCl (wd_1ad0248d h0 h1 h3 v0 h1 h2 v1 x2 v3 v4 h2 g0 f5 h3 g1 f6) H → va_D A (wd_1ad0248d h0 h1 h3 v0 h1 h2 v1 x2 v3 v4 h2 g0 f5 h3 g1 f6) → va_S A s.heap H locs → lv_has ls 4 [(2, .int ra1), (0, .ref h0), (1, .int 5)] → W p l e ({ frames := 7, cells := 0, slots := 0, locals := 160 }) s m ([.ref h0, .int 5] : List Value).toArray below meth c H locs 0 0 Q (F0 m 105 ls [.int x6]) := by
        intro x6 H locs ls qa_x6 qb_x6 hP hD hS hl
        refine lv_istore_n (lv' := [(3, .int x6), (2, .int ra1), (0, .ref h0), (1, .int 5)]) hx hb dX3_readAtom_105 rfl hl (by decide) rfl (fun ls hl => ?_)
        refine lv_iload_n hx hb dX3_readAtom_106 rfl (lv_at hl 0 rfl) ?_
        refine lv_if_ge (tgt := 118) hx hb dX3_readAtom_107 (by decide) (fun c8 => ?_) (fun c8 => ?_)
        · skip
          have fc8 : 0 ≤ x6.toInt := Int32.le_iff_toInt_le.mp c8
          refine lv_aload_n hx hb dX3_readAtom_118 rfl (lv_at hl 2 rfl) ?_
          refine va_get (D := (dC, dI)) (ci := 3) (v := .ref h1) (C := RX3) (T := TX3) (N := 3) hx hb hts (fun _ h => List.mem_cons_of_mem _ (List.mem_append_left _ (List.mem_append_right _ h))) hown hK hP 0 rfl rfl 0 (by decide) (hts (.fieldLink RX3 19 "LeftArguments$LawReader" "tape" "LLeftArguments$Tape;") (List.mem_cons_of_mem _ (List.mem_append_left _ (List.mem_append_left _ (List.mem_of_getElem? (i := 0) rfl))))) (fun _ h9 => h9) rfl dX3_readAtom_119 ?_
          have hPc := hP.sub (ws' := (wd_09b0abee h1 h2 v1 x2 v3 v4)) [1] rfl
          have hDc := hD.sub (ws' := (wd_09b0abee h1 h2 v1 x2 v3 v4)) [1] (by decide) rfl
          have hKc := hK.sub (tys' := []) [] rfl
          have hFc := va_free (wc := (wd_09b0abee h1 h2 v1 x2 v3 v4)) hD hS hA [1] rfl
          refine va_callv (va_runV (As := []) (rest := []) ⟨hx, hb, hml, hown, hts⟩ (k_X10_step l dC dI h1 h2 v1 x2 v3 v4 ⟨by first | omega | decide, by first | omega | decide⟩ H.size) (cwV 0 hts g_X3_readAtom_1_2 rfl rfl rfl (by decide +kernel) ⟨Nat.le_of_ble_eq_true rfl, Nat.le_of_ble_eq_true rfl⟩) ⟨fun a U g mk q => by obtain ⟨q0, q1, qP, qK, qD⟩ := q; exact ⟨q0, q1, qP, va_K.moved (u := U) (U := U.calling g mk a) (Vm.Alike.refl U.vm) qK, qD⟩, va_recv hKc hPc (ci := 10) (q0 := 0) rfl rfl, fun U hU hW => ⟨rfl, by rw [hU], by rw [hU]; exact hPc, va_K.moved hW.alike hKc, hDc.weaken (fun _ _ _ _ => trivial)⟩⟩ rfl rfl hl.1 rfl (lv_room (Nat.le_of_ble_eq_true rfl)) dX3_readAtom_122 ⟨Nat.le_of_ble_eq_true rfl, Nat.le_of_ble_eq_true rfl⟩) hS (fun q _ h => hFc q h) hFc (fun u t H1 locs ht hvm hwra9 hB hz1 hk1 hS => ?_)
          obtain ⟨x10, hP1, hK1, hD1⟩ := hB
          rw [ht] at hP1
          obtain ⟨hP, hD⟩ := va_join (wr := (wd_6b0d8e05 h0 h1 h3 v0 h2 g0 f5 h3 g1 f6)) (w1 := (wd_09b0abee h1 h2 v1 x10 v3 v4)) hP hD [1] [0, 2, 3] rfl rfl (by decide) (by decide) hk1 hFc hP1 hD1
          generalize H1 = H at hP hS ⊢
          have hP := hP.sub (ws' := (wd_1ad0248d h0 h1 h3 v0 h1 h2 v1 x10 v3 v4 h2 g0 f5 h3 g1 f6)) [0, 3, 1, 2] rfl
          have hD := hD.sub (ws' := (wd_1ad0248d h0 h1 h3 v0 h1 h2 v1 x10 v3 v4 h2 g0 f5 h3 g1 f6)) [0, 3, 1, 2] (by decide) rfl
          have hP : va_P (dC, dI) vwCl (wd_1ad0248d h0 h1 h3 v0 h1 h2 v1 x10 v3 v4 h2 g0 f5 h3 g1 f6) H := hP
          have hD : va_D A (wd_1ad0248d h0 h1 h3 v0 h1 h2 v1 x10 v3 v4 h2 g0 f5 h3 g1 f6) := hD
          refine lv_aload_n hx hb dX3_readAtom_125 rfl (lv_at hl 2 rfl) ?_
          refine lv_iconst (v := 1) hx hb dX3_readAtom_126 (by decide) ?_
          refine lv_iload_n hx hb dX3_readAtom_127 rfl (lv_at hl 0 rfl) ?_
          have hPc := hP.sub (ws' := (wd_b958b9da h0 h1 h3 v0 h3 g1 f6)) [0, 3] rfl
          have hDc := hD.sub (ws' := (wd_b958b9da h0 h1 h3 v0 h3 g1 f6)) [0, 3] (by decide) rfl
          have hKc := hK.sub (tys' := [(g1, .int)]) [1] rfl
          have hFc := va_free (wc := (wd_b958b9da h0 h1 h3 v0 h3 g1 f6)) hD hS hA [0, 3] rfl
          refine va_callv (va_runV (As := [.int 1, .int x6]) (rest := []) ⟨hx, hb, hml, hown, hts⟩ (k_X3_write l dC dI h0 h3 h1 v0 g1 f6 1 x6 ⟨by first | omega | decide, by first | omega | decide⟩ H.size) (cwV 2 hts g_X3_readAtom_1_3 rfl rfl rfl (by decide +kernel) ⟨Nat.le_of_ble_eq_true rfl, Nat.le_of_ble_eq_true rfl⟩) ⟨fun a U g mk q => by obtain ⟨q0, q1, qP, qK, qD⟩ := q; exact ⟨q0, q1, qP, va_K.moved (u := U) (U := U.calling g mk a) (Vm.Alike.refl U.vm) qK, qD⟩, va_recv hKc hPc (ci := 3) (q0 := 0) rfl rfl, fun U hU hW => ⟨rfl, by rw [hU], by rw [hU]; exact hPc, va_K.moved hW.alike hKc, hDc.weaken (fun _ _ _ _ => trivial)⟩⟩ rfl rfl hl.1 rfl (lv_room (Nat.le_of_ble_eq_true rfl)) dX3_readAtom_128 ⟨Nat.le_of_ble_eq_true rfl, Nat.le_of_ble_eq_true rfl⟩) hS (fun q _ h => hFc q h) hFc (fun u t H1 locs ht hvm hwra11 hB hz1 hk1 hS => ?_)
          obtain ⟨x12, fn13, oa_x12, ob_x12, hP1, hK1, hD1⟩ := hB
          rw [ht] at hP1
          obtain ⟨hP, hD⟩ := va_join (wr := (wd_82cdd16b h1 h2 v1 x10 v3 v4 h2 g0 f5)) (w1 := (wd_b958b9da h0 h1 h3 x12 h3 g1 fn13)) hP hD [0, 3] [1, 2] rfl rfl (by decide) (by decide) hk1 hFc hP1 hD1
          generalize H1 = H at hP hS ⊢
          have hP := hP.sub (ws' := (wd_1ad0248d h0 h1 h3 x12 h1 h2 v1 x10 v3 v4 h2 g0 f5 h3 g1 fn13)) [2, 0, 1, 3] rfl
          have hD := hD.sub (ws' := (wd_1ad0248d h0 h1 h3 x12 h1 h2 v1 x10 v3 v4 h2 g0 f5 h3 g1 fn13)) [2, 0, 1, 3] (by decide) rfl
          have hP : va_P (dC, dI) vwCl (wd_1ad0248d h0 h1 h3 x12 h1 h2 v1 x10 v3 v4 h2 g0 f5 h3 g1 fn13) H := hP
          have hD : va_D A (wd_1ad0248d h0 h1 h3 x12 h1 h2 v1 x10 v3 v4 h2 g0 f5 h3 g1 fn13) := hD
          refine lv_iconst (v := 1) hx hb dX3_readAtom_131 (by decide) ?_
          subst hQ
          have hP9 := hP.sub (ws' := (wd_1ad0248d h0 h1 h3 x12 h1 h2 v1 x10 v3 v4 h2 g0 f5 h3 g1 fn13)) [0, 1, 2, 3] rfl
          have hD9 := hD.sub (ws' := (wd_1ad0248d h0 h1 h3 x12 h1 h2 v1 x10 v3 v4 h2 g0 f5 h3 g1 fn13)) [0, 1, 2, 3] (by decide) rfl
          have hK9 := hK.sub (tys' := []) [] rfl
          exact W.zret (v := 1) hx hb hr rfl (fun t ht hW => ⟨⟨1, (), rfl, ⟨by first | omega | decide, by first | omega | decide⟩, x12, x10, v3, v4, fn13, by first | omega | decide, by first | omega | decide, by rw [ht]; exact hP9, va_K.moved hW.alike hK9, hD9⟩, hS.F ht⟩) hS.2.2 dX3_readAtom_132
        · skip
          have fc8 : ¬ (0 ≤ x6.toInt) := fun h9 => c8 (Int32.le_iff_toInt_le.mpr h9)
          refine lv_aload_n hx hb dX3_readAtom_110 rfl (lv_at hl 2 rfl) ?_
          refine va_get (D := (dC, dI)) (ci := 3) (v := .ref h1) (C := RX3) (T := TX3) (N := 3) hx hb hts (fun _ h => List.mem_cons_of_mem _ (List.mem_append_left _ (List.mem_append_right _ h))) hown hK hP 0 rfl rfl 0 (by decide) (hts (.fieldLink RX3 19 "LeftArguments$LawReader" "tape" "LLeftArguments$Tape;") (List.mem_cons_of_mem _ (List.mem_append_left _ (List.mem_append_left _ (List.mem_of_getElem? (i := 0) rfl))))) (fun _ h9 => h9) rfl dX3_readAtom_111 ?_
          have hPc := hP.sub (ws' := (wd_09b0abee h1 h2 v1 x2 v3 v4)) [1] rfl
          have hDc := hD.sub (ws' := (wd_09b0abee h1 h2 v1 x2 v3 v4)) [1] (by decide) rfl
          have hKc := hK.sub (tys' := []) [] rfl
          have hFc := va_free (wc := (wd_09b0abee h1 h2 v1 x2 v3 v4)) hD hS hA [1] rfl
          refine va_calli (va_runV (As := []) (rest := []) ⟨hx, hb, hml, hown, hts⟩ (k_X10_wrongHere l dC dI h1 h2 v1 x2 v3 v4 ⟨by first | omega | decide, by first | omega | decide⟩ H.size) (cwV 0 hts g_X3_readAtom_1_4 rfl rfl rfl (by decide +kernel) ⟨Nat.le_of_ble_eq_true rfl, Nat.le_of_ble_eq_true rfl⟩) ⟨fun a U g mk q => by obtain ⟨q0, q1, qP, qK, qD⟩ := q; exact ⟨q0, q1, qP, va_K.moved (u := U) (U := U.calling g mk a) (Vm.Alike.refl U.vm) qK, qD⟩, va_recv hKc hPc (ci := 10) (q0 := 0) rfl rfl, fun U hU hW => ⟨rfl, by rw [hU], by rw [hU]; exact hPc, va_K.moved hW.alike hKc, hDc.weaken (fun _ _ _ _ => trivial)⟩⟩ rfl rfl hl.1 rfl (lv_room (Nat.le_of_ble_eq_true rfl)) dX3_readAtom_114 ⟨Nat.le_of_ble_eq_true rfl, Nat.le_of_ble_eq_true rfl⟩) hS (fun q _ h => hFc q h) hFc (fun ra14 u t H1 locs ht hvm hwra14 hB hz1 hk1 hS => ?_)
          obtain ⟨x15, hP1, hK1, hD1⟩ := hB
          rw [ht] at hP1
          obtain ⟨hP, hD⟩ := va_join (wr := (wd_6b0d8e05 h0 h1 h3 v0 h2 g0 f5 h3 g1 f6)) (w1 := (wd_09b0abee h1 h2 v1 x2 x15 v4)) hP hD [1] [0, 2, 3] rfl rfl (by decide) (by decide) hk1 hFc hP1 hD1
          generalize H1 = H at hP hS ⊢
          have hP := hP.sub (ws' := (wd_1ad0248d h0 h1 h3 v0 h1 h2 v1 x2 x15 v4 h2 g0 f5 h3 g1 f6)) [0, 3, 1, 2] rfl
          have hD := hD.sub (ws' := (wd_1ad0248d h0 h1 h3 v0 h1 h2 v1 x2 x15 v4 h2 g0 f5 h3 g1 f6)) [0, 3, 1, 2] (by decide) rfl
          have hP : va_P (dC, dI) vwCl (wd_1ad0248d h0 h1 h3 v0 h1 h2 v1 x2 x15 v4 h2 g0 f5 h3 g1 f6) H := hP
          have hD : va_D A (wd_1ad0248d h0 h1 h3 v0 h1 h2 v1 x2 x15 v4 h2 g0 f5 h3 g1 f6) := hD
          obtain ⟨wa_ra14, wb_ra14⟩ := hwra14
          have wa_ra14 : 0 ≤ ra14.toInt := wa_ra14
          have wb_ra14 : ra14.toInt ≤ 0 := wb_ra14
          subst hQ
          have hP9 := hP.sub (ws' := (wd_1ad0248d h0 h1 h3 v0 h1 h2 v1 x2 x15 v4 h2 g0 f5 h3 g1 f6)) [0, 1, 2, 3] rfl
          have hD9 := hD.sub (ws' := (wd_1ad0248d h0 h1 h3 v0 h1 h2 v1 x2 x15 v4 h2 g0 f5 h3 g1 f6)) [0, 1, 2, 3] (by decide) rfl
          have hK9 := hK.sub (tys' := []) [] rfl
          exact W.zret (v := ra14) hx hb hr (pv_nz (by omega) (by omega)) (fun t ht hW => ⟨⟨ra14, (), rfl, ⟨by first | omega | decide, by first | omega | decide⟩, v0, x2, x15, v4, f6, by first | omega | decide, by first | omega | decide, by rw [ht]; exact hP9, va_K.moved hW.alike hK9, hD9⟩, hS.F ht⟩) hS.2.2 dX3_readAtom_117
      refine lv_icmp_ne (tgt := 98) hx hb dX3_readAtom_91 (by decide) (fun c16 => ?_) (fun c16 => ?_)
      · skip
        have fc16 : ¬ (ra1.toInt = (-1)) := fun h9 => c16 (Int32.toInt_inj.mp h9)
        refine va_ldcS hx hb hown h_vr_2 dX3_readAtom_98 ?_
        refine lv_iload_n hx hb dX3_readAtom_100 rfl (lv_at hl 0 rfl) ?_
        obtain ⟨t17, et17⟩ : ∃ z : Int32, z = ((ra1 : Int32).toUInt32 % 65536).toInt32 := ⟨_, rfl⟩
        refine lv_i2c (v := t17) hx hb dX3_readAtom_101 (by rw [et17]) ?_
        have hPc := hP.sub (ws' := []) [] rfl
        have hDc := hD.sub (ws' := []) [] (by decide) rfl
        have hKc := hK.sub (tys' := []) [] rfl
        have hFc := va_free (wc := []) hD hS hA [] rfl
        refine va_calli (va_runV (As := [.int t17]) (rest := []) ⟨hx, hb, hml, hown, hts⟩ (k_J0_indexOf_0f7a4 l dC dI adK adV t17  H.size) (cwV 1 hts g_X3_readAtom_1_5 rfl rfl rfl (by decide +kernel) ⟨Nat.le_of_ble_eq_true rfl, Nat.le_of_ble_eq_true rfl⟩) ⟨fun a U g mk q => by obtain ⟨q0, q1, qP, qK, qD, n0, n1⟩ := q; exact ⟨q0, q1, qP, va_K.moved (u := U) (U := U.calling g mk a) (Vm.Alike.refl U.vm) qK, qD, va_Z.moved (Vm.Alike.refl _) n0, vk_S.moved (Vm.Alike.refl _) n1⟩, vk_recv h_st_S (by decide : 2 < 3) hS, fun U hU hW => ⟨rfl, by rw [hU], by rw [hU]; exact hPc, va_K.moved hW.alike hKc, hDc.weaken (fun _ _ _ _ => trivial), (by rw [hU]; exact (va_Z.moved hW.alike (va_Z.kept h_st_CS hS.2.1)).narrow hFc), (by rw [hU]; exact (vk_S.moved hW.alike (vk_S.kept h_st_S hS.2.1)).narrow hFc)⟩⟩ rfl rfl hl.1 rfl (lv_room (Nat.le_of_ble_eq_true rfl)) dX3_readAtom_102 ⟨Nat.le_of_ble_eq_true rfl, Nat.le_of_ble_eq_true rfl⟩) hS (fun q _ h => hFc q h) hFc (fun ra18 u t H1 locs ht hvm hwra18 hB hz1 hk1 hS => ?_)
        obtain ⟨hP1, hK1, hD1⟩ := hB
        rw [ht] at hP1
        obtain ⟨hP, hD⟩ := va_join (wr := (wd_1ad0248d h0 h1 h3 v0 h1 h2 v1 x2 v3 v4 h2 g0 f5 h3 g1 f6)) (w1 := []) hP hD [] [0, 1, 2, 3] rfl rfl (by decide) (by decide) hk1 hFc hP1 hD1
        generalize H1 = H at hP hS ⊢
        have hP : va_P (dC, dI) vwCl (wd_1ad0248d h0 h1 h3 v0 h1 h2 v1 x2 v3 v4 h2 g0 f5 h3 g1 f6) H := hP
        have hD : va_D A (wd_1ad0248d h0 h1 h3 v0 h1 h2 v1 x2 v3 v4 h2 g0 f5 h3 g1 f6) := hD
        obtain ⟨wa_ra18, wb_ra18⟩ := hwra18
        have wa_ra18 : -1 ≤ ra18.toInt := wa_ra18
        have wb_ra18 : ra18.toInt ≤ 5 := wb_ra18
        exact hJ7 ra18 H locs ls (by first | omega | decide) (by first | omega | decide) hP hD hS (lv_sub hl [0, 1, 2] rfl)
      · skip
        have fc16 : ra1.toInt = (-1) := congrArg Int32.toInt c16
        refine lv_iconst (v := (-1)) hx hb dX3_readAtom_94 (by decide) ?_
        refine lv_goto (tgt := 105) hx hb dX3_readAtom_95 (by decide) ?_
        exact hJ7 ((-1)) H locs ls (by first | omega | decide) (by first | omega | decide) hP hD hS (lv_sub hl [0, 1, 2] rfl)
    · skip
      have fc5 : ¬ (ra4.toInt = 0) := fun h9 => c5 (Int32.toInt_inj.mp h9)
      refine lv_aload_n hx hb dX3_readAtom_62 rfl (lv_at hl 1 rfl) ?_
      refine va_get (D := (dC, dI)) (ci := 3) (v := .ref h1) (C := RX3) (T := TX3) (N := 3) hx hb hts (fun _ h => List.mem_cons_of_mem _ (List.mem_append_left _ (List.mem_append_right _ h))) hown hK hP 0 rfl rfl 0 (by decide) (hts (.fieldLink RX3 19 "LeftArguments$LawReader" "tape" "LLeftArguments$Tape;") (List.mem_cons_of_mem _ (List.mem_append_left _ (List.mem_append_left _ (List.mem_of_getElem? (i := 0) rfl))))) (fun _ h9 => h9) rfl dX3_readAtom_63 ?_
      refine lv_iconst (v := 4) hx hb dX3_readAtom_66 (by decide) ?_
      have hPc := hP.sub (ws' := (wd_82cdd16b h1 h2 v1 x2 v3 v4 h2 g0 f5)) [1, 2] rfl
      have hDc := hD.sub (ws' := (wd_82cdd16b h1 h2 v1 x2 v3 v4 h2 g0 f5)) [1, 2] (by decide) rfl
      have hKc := hK.sub (tys' := [(g0, .int)]) [0] rfl
      have hFc := va_free (wc := (wd_82cdd16b h1 h2 v1 x2 v3 v4 h2 g0 f5)) hD hS hA [1, 2] rfl
      refine va_calli (va_runV (As := [.int 4]) (rest := []) ⟨hx, hb, hml, hown, hts⟩ (k_X10_takeNumber l dC dI h1 h2 v1 x2 v3 v4 g0 f5 4 ⟨by first | omega | decide, by first | omega | decide⟩ H.size) (cwV 1 hts g_X3_readAtom_1_6 rfl rfl rfl (by decide +kernel) ⟨Nat.le_of_ble_eq_true rfl, Nat.le_of_ble_eq_true rfl⟩) ⟨fun a U g mk q => by obtain ⟨q0, q1, qP, qK, qD⟩ := q; exact ⟨q0, q1, qP, va_K.moved (u := U) (U := U.calling g mk a) (Vm.Alike.refl U.vm) qK, qD⟩, va_recv hKc hPc (ci := 10) (q0 := 0) rfl rfl, fun U hU hW => ⟨rfl, by rw [hU], by rw [hU]; exact hPc, va_K.moved hW.alike hKc, hDc.weaken (fun _ _ _ _ => trivial)⟩⟩ rfl rfl hl.1 rfl (lv_room (Nat.le_of_ble_eq_true rfl)) dX3_readAtom_67 ⟨Nat.le_of_ble_eq_true rfl, Nat.le_of_ble_eq_true rfl⟩) hS (fun q _ h => hFc q h) hFc (fun ra19 u t H1 locs ht hvm hwra19 hB hz1 hk1 hS => ?_)
      obtain ⟨x20, x21, x22, hP1, hK1, hD1⟩ := hB
      rw [ht] at hP1
      obtain ⟨hP, hD⟩ := va_join (wr := (wd_b958b9da h0 h1 h3 v0 h3 g1 f6)) (w1 := (wd_82cdd16b h1 h2 v1 x20 x21 x22 h2 g0 f5)) hP hD [1, 2] [0, 3] rfl rfl (by decide) (by decide) hk1 hFc hP1 hD1
      generalize H1 = H at hP hS ⊢
      have hP := hP.sub (ws' := (wd_1ad0248d h0 h1 h3 v0 h1 h2 v1 x20 x21 x22 h2 g0 f5 h3 g1 f6)) [0, 2, 3, 1] rfl
      have hD := hD.sub (ws' := (wd_1ad0248d h0 h1 h3 v0 h1 h2 v1 x20 x21 x22 h2 g0 f5 h3 g1 f6)) [0, 2, 3, 1] (by decide) rfl
      have hP : va_P (dC, dI) vwCl (wd_1ad0248d h0 h1 h3 v0 h1 h2 v1 x20 x21 x22 h2 g0 f5 h3 g1 f6) H := hP
      have hD : va_D A (wd_1ad0248d h0 h1 h3 v0 h1 h2 v1 x20 x21 x22 h2 g0 f5 h3 g1 f6) := hD
      obtain ⟨wa_ra19, wb_ra19⟩ := hwra19
      have wa_ra19 : 0 ≤ ra19.toInt := wa_ra19
      have wb_ra19 : ra19.toInt ≤ 1 := wb_ra19
      refine lv_if_ne (tgt := 75) hx hb dX3_readAtom_70 (by decide) (fun c23 => ?_) (fun c23 => ?_)
      · skip
        have fc23 : ¬ (ra19.toInt = 0) := fun h9 => c23 (Int32.toInt_inj.mp h9)
        refine lv_aload_n hx hb dX3_readAtom_75 rfl (lv_at hl 1 rfl) ?_
        refine lv_iconst (v := 0) hx hb dX3_readAtom_76 (by decide) ?_
        refine lv_aload_n hx hb dX3_readAtom_77 rfl (lv_at hl 1 rfl) ?_
        refine va_get (D := (dC, dI)) (ci := 3) (v := .ref h1) (C := RX3) (T := TX3) (N := 3) hx hb hts (fun _ h => List.mem_cons_of_mem _ (List.mem_append_left _ (List.mem_append_right _ h))) hown hK hP 0 rfl rfl 0 (by decide) (hts (.fieldLink RX3 19 "LeftArguments$LawReader" "tape" "LLeftArguments$Tape;") (List.mem_cons_of_mem _ (List.mem_append_left _ (List.mem_append_left _ (List.mem_of_getElem? (i := 0) rfl))))) (fun _ h9 => h9) rfl dX3_readAtom_78 ?_
        have hPc := hP.sub (ws' := (wd_09b0abee h1 h2 v1 x20 x21 x22)) [1] rfl
        have hDc := hD.sub (ws' := (wd_09b0abee h1 h2 v1 x20 x21 x22)) [1] (by decide) rfl
        have hKc := hK.sub (tys' := []) [] rfl
        have hFc := va_free (wc := (wd_09b0abee h1 h2 v1 x20 x21 x22)) hD hS hA [1] rfl
        refine va_calli (va_runV (As := []) (rest := [.int 0, .ref h0]) ⟨hx, hb, hml, hown, hts⟩ (k_X10_number l dC dI h1 h2 v1 x20 x21 x22 ⟨by first | omega | decide, by first | omega | decide⟩ H.size) (cwV 0 hts g_X3_readAtom_1_7 rfl rfl rfl (by decide +kernel) ⟨Nat.le_of_ble_eq_true rfl, Nat.le_of_ble_eq_true rfl⟩) ⟨fun a U g mk q => by obtain ⟨q0, q1, qP, qK, qD⟩ := q; exact ⟨q0, q1, qP, va_K.moved (u := U) (U := U.calling g mk a) (Vm.Alike.refl U.vm) qK, qD⟩, va_recv hKc hPc (ci := 10) (q0 := 0) rfl rfl, fun U hU hW => ⟨rfl, by rw [hU], by rw [hU]; exact hPc, va_K.moved hW.alike hKc, hDc.weaken (fun _ _ _ _ => trivial)⟩⟩ rfl rfl hl.1 rfl (lv_room (Nat.le_of_ble_eq_true rfl)) dX3_readAtom_81 ⟨Nat.le_of_ble_eq_true rfl, Nat.le_of_ble_eq_true rfl⟩) hS (fun q _ h => hFc q h) hFc (fun ra24 u t H1 locs ht hvm hwra24 hB hz1 hk1 hS => ?_)
        obtain ⟨hP1, hK1, hD1⟩ := hB
        rw [ht] at hP1
        obtain ⟨hP, hD⟩ := va_join (wr := (wd_6b0d8e05 h0 h1 h3 v0 h2 g0 f5 h3 g1 f6)) (w1 := (wd_09b0abee h1 h2 v1 x20 x21 x22)) hP hD [1] [0, 2, 3] rfl rfl (by decide) (by decide) hk1 hFc hP1 hD1
        generalize H1 = H at hP hS ⊢
        have hP := hP.sub (ws' := (wd_1ad0248d h0 h1 h3 v0 h1 h2 v1 x20 x21 x22 h2 g0 f5 h3 g1 f6)) [0, 3, 1, 2] rfl
        have hD := hD.sub (ws' := (wd_1ad0248d h0 h1 h3 v0 h1 h2 v1 x20 x21 x22 h2 g0 f5 h3 g1 f6)) [0, 3, 1, 2] (by decide) rfl
        have hP : va_P (dC, dI) vwCl (wd_1ad0248d h0 h1 h3 v0 h1 h2 v1 x20 x21 x22 h2 g0 f5 h3 g1 f6) H := hP
        have hD : va_D A (wd_1ad0248d h0 h1 h3 v0 h1 h2 v1 x20 x21 x22 h2 g0 f5 h3 g1 f6) := hD
        have hPc := hP.sub (ws' := (wd_b958b9da h0 h1 h3 v0 h3 g1 f6)) [0, 3] rfl
        have hDc := hD.sub (ws' := (wd_b958b9da h0 h1 h3 v0 h3 g1 f6)) [0, 3] (by decide) rfl
        have hKc := hK.sub (tys' := [(g1, .int)]) [1] rfl
        have hFc := va_free (wc := (wd_b958b9da h0 h1 h3 v0 h3 g1 f6)) hD hS hA [0, 3] rfl
        refine va_callv (va_runV (As := [.int 0, .int ra24]) (rest := []) ⟨hx, hb, hml, hown, hts⟩ (k_X3_write l dC dI h0 h3 h1 v0 g1 f6 0 ra24 ⟨by first | omega | decide, by first | omega | decide⟩ H.size) (cwV 2 hts g_X3_readAtom_1_3 rfl rfl rfl (by decide +kernel) ⟨Nat.le_of_ble_eq_true rfl, Nat.le_of_ble_eq_true rfl⟩) ⟨fun a U g mk q => by obtain ⟨q0, q1, qP, qK, qD⟩ := q; exact ⟨q0, q1, qP, va_K.moved (u := U) (U := U.calling g mk a) (Vm.Alike.refl U.vm) qK, qD⟩, va_recv hKc hPc (ci := 3) (q0 := 0) rfl rfl, fun U hU hW => ⟨rfl, by rw [hU], by rw [hU]; exact hPc, va_K.moved hW.alike hKc, hDc.weaken (fun _ _ _ _ => trivial)⟩⟩ rfl rfl hl.1 rfl (lv_room (Nat.le_of_ble_eq_true rfl)) dX3_readAtom_84 ⟨Nat.le_of_ble_eq_true rfl, Nat.le_of_ble_eq_true rfl⟩) hS (fun q _ h => hFc q h) hFc (fun u t H1 locs ht hvm hwra25 hB hz1 hk1 hS => ?_)
        obtain ⟨x26, fn27, oa_x26, ob_x26, hP1, hK1, hD1⟩ := hB
        rw [ht] at hP1
        obtain ⟨hP, hD⟩ := va_join (wr := (wd_82cdd16b h1 h2 v1 x20 x21 x22 h2 g0 f5)) (w1 := (wd_b958b9da h0 h1 h3 x26 h3 g1 fn27)) hP hD [0, 3] [1, 2] rfl rfl (by decide) (by decide) hk1 hFc hP1 hD1
        generalize H1 = H at hP hS ⊢
        have hP := hP.sub (ws' := (wd_1ad0248d h0 h1 h3 x26 h1 h2 v1 x20 x21 x22 h2 g0 f5 h3 g1 fn27)) [2, 0, 1, 3] rfl
        have hD := hD.sub (ws' := (wd_1ad0248d h0 h1 h3 x26 h1 h2 v1 x20 x21 x22 h2 g0 f5 h3 g1 fn27)) [2, 0, 1, 3] (by decide) rfl
        have hP : va_P (dC, dI) vwCl (wd_1ad0248d h0 h1 h3 x26 h1 h2 v1 x20 x21 x22 h2 g0 f5 h3 g1 fn27) H := hP
        have hD : va_D A (wd_1ad0248d h0 h1 h3 x26 h1 h2 v1 x20 x21 x22 h2 g0 f5 h3 g1 fn27) := hD
        refine lv_iconst (v := 1) hx hb dX3_readAtom_87 (by decide) ?_
        subst hQ
        have hP9 := hP.sub (ws' := (wd_1ad0248d h0 h1 h3 x26 h1 h2 v1 x20 x21 x22 h2 g0 f5 h3 g1 fn27)) [0, 1, 2, 3] rfl
        have hD9 := hD.sub (ws' := (wd_1ad0248d h0 h1 h3 x26 h1 h2 v1 x20 x21 x22 h2 g0 f5 h3 g1 fn27)) [0, 1, 2, 3] (by decide) rfl
        have hK9 := hK.sub (tys' := []) [] rfl
        exact W.zret (v := 1) hx hb hr rfl (fun t ht hW => ⟨⟨1, (), rfl, ⟨by first | omega | decide, by first | omega | decide⟩, x26, x20, x21, x22, fn27, by first | omega | decide, by first | omega | decide, by rw [ht]; exact hP9, va_K.moved hW.alike hK9, hD9⟩, hS.F ht⟩) hS.2.2 dX3_readAtom_88
      · skip
        have fc23 : ra19.toInt = 0 := congrArg Int32.toInt c23
        refine lv_iconst (v := 0) hx hb dX3_readAtom_73 (by decide) ?_
        subst hQ
        have hP9 := hP.sub (ws' := (wd_1ad0248d h0 h1 h3 v0 h1 h2 v1 x20 x21 x22 h2 g0 f5 h3 g1 f6)) [0, 1, 2, 3] rfl
        have hD9 := hD.sub (ws' := (wd_1ad0248d h0 h1 h3 v0 h1 h2 v1 x20 x21 x22 h2 g0 f5 h3 g1 f6)) [0, 1, 2, 3] (by decide) rfl
        have hK9 := hK.sub (tys' := []) [] rfl
        exact W.zret (v := 0) hx hb hr rfl (fun t ht hW => ⟨⟨0, (), rfl, ⟨by first | omega | decide, by first | omega | decide⟩, v0, x20, x21, x22, f6, by first | omega | decide, by first | omega | decide, by rw [ht]; exact hP9, va_K.moved hW.alike hK9, hD9⟩, hS.F ht⟩) hS.2.2 dX3_readAtom_74
  · skip
    have fc3 : ra1.toInt = 91 := congrArg Int32.toInt c3
    refine lv_iload_n hx hb dX3_readAtom_14 rfl (lv_at hl 2 rfl) ?_
    refine lv_bipush (v := 6) hx hb dX3_readAtom_15 (by decide) ?_
    refine lv_icmp_ge (tgt := 55) hx hb dX3_readAtom_17 (by decide) (fun c => absurd c (by decide)) (fun _ => ?_)
    refine lv_aload_n hx hb dX3_readAtom_20 rfl (lv_at hl 1 rfl) ?_
    refine va_get (D := (dC, dI)) (ci := 3) (v := .ref h1) (C := RX3) (T := TX3) (N := 3) hx hb hts (fun _ h => List.mem_cons_of_mem _ (List.mem_append_left _ (List.mem_append_right _ h))) hown hK hP 0 rfl rfl 0 (by decide) (hts (.fieldLink RX3 19 "LeftArguments$LawReader" "tape" "LLeftArguments$Tape;") (List.mem_cons_of_mem _ (List.mem_append_left _ (List.mem_append_left _ (List.mem_of_getElem? (i := 0) rfl))))) (fun _ h9 => h9) rfl dX3_readAtom_21 ?_
    have hPc := hP.sub (ws' := (wd_09b0abee h1 h2 v1 x2 v3 v4)) [1] rfl
    have hDc := hD.sub (ws' := (wd_09b0abee h1 h2 v1 x2 v3 v4)) [1] (by decide) rfl
    have hKc := hK.sub (tys' := []) [] rfl
    have hFc := va_free (wc := (wd_09b0abee h1 h2 v1 x2 v3 v4)) hD hS hA [1] rfl
    refine va_callv (va_runV (As := []) (rest := []) ⟨hx, hb, hml, hown, hts⟩ (k_X10_step l dC dI h1 h2 v1 x2 v3 v4 ⟨by first | omega | decide, by first | omega | decide⟩ H.size) (cwV 0 hts g_X3_readAtom_1_2 rfl rfl rfl (by decide +kernel) ⟨Nat.le_of_ble_eq_true rfl, Nat.le_of_ble_eq_true rfl⟩) ⟨fun a U g mk q => by obtain ⟨q0, q1, qP, qK, qD⟩ := q; exact ⟨q0, q1, qP, va_K.moved (u := U) (U := U.calling g mk a) (Vm.Alike.refl U.vm) qK, qD⟩, va_recv hKc hPc (ci := 10) (q0 := 0) rfl rfl, fun U hU hW => ⟨rfl, by rw [hU], by rw [hU]; exact hPc, va_K.moved hW.alike hKc, hDc.weaken (fun _ _ _ _ => trivial)⟩⟩ rfl rfl hl.1 rfl (lv_room (Nat.le_of_ble_eq_true rfl)) dX3_readAtom_24 ⟨Nat.le_of_ble_eq_true rfl, Nat.le_of_ble_eq_true rfl⟩) hS (fun q _ h => hFc q h) hFc (fun u t H1 locs ht hvm hwra28 hB hz1 hk1 hS => ?_)
    obtain ⟨x29, hP1, hK1, hD1⟩ := hB
    rw [ht] at hP1
    obtain ⟨hP, hD⟩ := va_join (wr := (wd_6b0d8e05 h0 h1 h3 v0 h2 g0 f5 h3 g1 f6)) (w1 := (wd_09b0abee h1 h2 v1 x29 v3 v4)) hP hD [1] [0, 2, 3] rfl rfl (by decide) (by decide) hk1 hFc hP1 hD1
    generalize H1 = H at hP hS ⊢
    have hP := hP.sub (ws' := (wd_1ad0248d h0 h1 h3 v0 h1 h2 v1 x29 v3 v4 h2 g0 f5 h3 g1 f6)) [0, 3, 1, 2] rfl
    have hD := hD.sub (ws' := (wd_1ad0248d h0 h1 h3 v0 h1 h2 v1 x29 v3 v4 h2 g0 f5 h3 g1 f6)) [0, 3, 1, 2] (by decide) rfl
    have hP : va_P (dC, dI) vwCl (wd_1ad0248d h0 h1 h3 v0 h1 h2 v1 x29 v3 v4 h2 g0 f5 h3 g1 f6) H := hP
    have hD : va_D A (wd_1ad0248d h0 h1 h3 v0 h1 h2 v1 x29 v3 v4 h2 g0 f5 h3 g1 f6) := hD
    refine lv_aload_n hx hb dX3_readAtom_27 rfl (lv_at hl 1 rfl) ?_
    refine lv_iload_n hx hb dX3_readAtom_28 rfl (lv_at hl 2 rfl) ?_
    refine lv_iconst (v := 1) hx hb dX3_readAtom_29 (by decide) ?_
    refine lv_iadd hx hb dX3_readAtom_30 ?_
    refine lv_topi (fun tv30 etv30 => ?_)
    obtain rfl : tv30 = (6 : Int32) := etv30.trans (by first | rfl | decide)
    have hPc := hP.sub (ws' := (wd_1ad0248d h0 h1 h3 v0 h1 h2 v1 x29 v3 v4 h2 g0 f5 h3 g1 f6)) [0, 1, 2, 3] rfl
    have hDc := hD.sub (ws' := (wd_1ad0248d h0 h1 h3 v0 h1 h2 v1 x29 v3 v4 h2 g0 f5 h3 g1 f6)) [0, 1, 2, 3] (by decide) rfl
    have hKc := hK.sub (tys' := [(g0, .int), (g1, .int)]) [0, 1] rfl
    have hFc := va_free (wc := (wd_1ad0248d h0 h1 h3 v0 h1 h2 v1 x29 v3 v4 h2 g0 f5 h3 g1 f6)) hD hS hA [0, 1, 2, 3] rfl
    refine va_calli (va_runV (As := [.int 6]) (rest := []) ⟨hx, hb, hml, hown, hts⟩ (k_X3_readSum l dC dI adK adV h0 h1 h2 h3 v0 v1 x29 v3 v4 g0 f5 g1 f6 ⟨by first | omega | decide, by first | omega | decide⟩ ⟨by first | omega | decide, by first | omega | decide⟩ H.size) (cwV 1 hts g_X3_readAtom_1_10 rfl rfl rfl (by decide +kernel) ⟨Nat.le_of_ble_eq_true rfl, Nat.le_of_ble_eq_true rfl⟩) ⟨fun a U g mk q => by obtain ⟨q0, q1, qP, qK, qD, n0, n1, n2⟩ := q; exact ⟨q0, q1, qP, va_K.moved (u := U) (U := U.calling g mk a) (Vm.Alike.refl U.vm) qK, qD, vk_R.same rfl n0, va_Z.moved (Vm.Alike.refl _) n1, vk_S.moved (Vm.Alike.refl _) n2⟩, va_recv hKc hPc (ci := 3) (q0 := 0) rfl rfl, fun U hU hW => ⟨rfl, by rw [hU], by rw [hU]; exact hPc, va_K.moved hW.alike hKc, hDc.weaken (fun _ _ _ _ => trivial), vk_R.warm hW h_vr_2, (by rw [hU]; exact (va_Z.moved hW.alike (va_Z.kept h_st_CS hS.2.1)).narrow hFc), (by rw [hU]; exact (vk_S.moved hW.alike (vk_S.kept h_st_S hS.2.1)).narrow hFc)⟩⟩ rfl rfl hl.1 rfl (lv_room (Nat.le_of_ble_eq_true rfl)) dX3_readAtom_31 ⟨Nat.le_of_ble_eq_true rfl, Nat.le_of_ble_eq_true rfl⟩) hS (fun q _ h => hFc q h) hFc (fun ra31 u t H1 locs ht hvm hwra31 hB hz1 hk1 hS => ?_)
    obtain ⟨x32, x33, x34, x35, fn36, oa_x32, ob_x32, hP1, hK1, hD1⟩ := hB
    rw [ht] at hP1
    obtain ⟨hP, hD⟩ := va_join (wr := []) (w1 := (wd_1ad0248d h0 h1 h3 x32 h1 h2 v1 x33 x34 x35 h2 g0 f5 h3 g1 fn36)) hP hD [0, 1, 2, 3] [] rfl rfl (by decide) (by decide) hk1 hFc hP1 hD1
    generalize H1 = H at hP hS ⊢
    have hP : va_P (dC, dI) vwCl (wd_1ad0248d h0 h1 h3 x32 h1 h2 v1 x33 x34 x35 h2 g0 f5 h3 g1 fn36) H := hP
    have hD : va_D A (wd_1ad0248d h0 h1 h3 x32 h1 h2 v1 x33 x34 x35 h2 g0 f5 h3 g1 fn36) := hD
    obtain ⟨wa_ra31, wb_ra31⟩ := hwra31
    have wa_ra31 : 0 ≤ ra31.toInt := wa_ra31
    have wb_ra31 : ra31.toInt ≤ 1 := wb_ra31
    have hJ40 : ∀ (x37 : Int32) (x38 : Int32) (x39 : Int32) (H : Heap) (locs : List Loc) (ls : Array Slot), 0 ≤ x37.toInt → x37.toInt ≤ 1 → va_P (dC, dI) vwCl (wd_1ad0248d h0 h1 h3 x32 h1 h2 v1 x38 x39 x35 h2 g0 f5 h3 g1 fn36) H → va_D A (wd_1ad0248d h0 h1 h3 x32 h1 h2 v1 x38 x39 x35 h2 g0 f5 h3 g1 fn36) → va_S A s.heap H locs → lv_has ls 4 [(2, .int ra1), (0, .ref h0), (1, .int 5)] → W p l e ({ frames := 7, cells := 0, slots := 0, locals := 160 }) s m ([.ref h0, .int 5] : List Value).toArray below meth c H locs 0 0 Q (F0 m 54 ls [.int x37]) := by
      intro x37 x38 x39 H locs ls qa_x37 qb_x37 hP hD hS hl
      subst hQ
      have hP9 := hP.sub (ws' := (wd_1ad0248d h0 h1 h3 x32 h1 h2 v1 x38 x39 x35 h2 g0 f5 h3 g1 fn36)) [0, 1, 2, 3] rfl
      have hD9 := hD.sub (ws' := (wd_1ad0248d h0 h1 h3 x32 h1 h2 v1 x38 x39 x35 h2 g0 f5 h3 g1 fn36)) [0, 1, 2, 3] (by decide) rfl
      have hK9 := hK.sub (tys' := []) [] rfl
      exact W.zret (v := x37) hx hb hr (pv_nz (by omega) (by omega)) (fun t ht hW => ⟨⟨x37, (), rfl, ⟨by first | omega | decide, by first | omega | decide⟩, x32, x38, x39, x35, fn36, by first | omega | decide, by first | omega | decide, by rw [ht]; exact hP9, va_K.moved hW.alike hK9, hD9⟩, hS.F ht⟩) hS.2.2 dX3_readAtom_54
    refine lv_if_eq (tgt := 53) hx hb dX3_readAtom_34 (by decide) (fun c41 => ?_) (fun c41 => ?_)
    · skip
      have fc41 : ra31.toInt = 0 := congrArg Int32.toInt c41
      refine lv_iconst (v := 0) hx hb dX3_readAtom_53 (by decide) ?_
      exact hJ40 0 x33 x34 H locs ls (by first | omega | decide) (by first | omega | decide) hP hD hS (lv_sub hl [0, 1, 2] rfl)
    · skip
      have fc41 : ¬ (ra31.toInt = 0) := fun h9 => c41 (Int32.toInt_inj.mp h9)
      refine lv_aload_n hx hb dX3_readAtom_37 rfl (lv_at hl 1 rfl) ?_
      refine va_get (D := (dC, dI)) (ci := 3) (v := .ref h1) (C := RX3) (T := TX3) (N := 3) hx hb hts (fun _ h => List.mem_cons_of_mem _ (List.mem_append_left _ (List.mem_append_right _ h))) hown hK hP 0 rfl rfl 0 (by decide) (hts (.fieldLink RX3 19 "LeftArguments$LawReader" "tape" "LLeftArguments$Tape;") (List.mem_cons_of_mem _ (List.mem_append_left _ (List.mem_append_left _ (List.mem_of_getElem? (i := 0) rfl))))) (fun _ h9 => h9) rfl dX3_readAtom_38 ?_
      refine lv_bipush (v := 93) hx hb dX3_readAtom_41 (by decide) ?_
      have hPc := hP.sub (ws' := (wd_82cdd16b h1 h2 v1 x33 x34 x35 h2 g0 f5)) [1, 2] rfl
      have hDc := hD.sub (ws' := (wd_82cdd16b h1 h2 v1 x33 x34 x35 h2 g0 f5)) [1, 2] (by decide) rfl
      have hKc := hK.sub (tys' := [(g0, .int)]) [0] rfl
      have hFc := va_free (wc := (wd_82cdd16b h1 h2 v1 x33 x34 x35 h2 g0 f5)) hD hS hA [1, 2] rfl
      refine va_calli (va_runV (As := [.int 93]) (rest := []) ⟨hx, hb, hml, hown, hts⟩ (k_X10_take l dC dI h1 h2 v1 x33 x34 x35 g0 f5 93 ⟨by first | omega | decide, by first | omega | decide⟩ H.size) (cwV 1 hts g_X3_readAtom_1_11 rfl rfl rfl (by decide +kernel) ⟨Nat.le_of_ble_eq_true rfl, Nat.le_of_ble_eq_true rfl⟩) ⟨fun a U g mk q => by obtain ⟨q0, q1, qP, qK, qD⟩ := q; exact ⟨q0, q1, qP, va_K.moved (u := U) (U := U.calling g mk a) (Vm.Alike.refl U.vm) qK, qD⟩, va_recv hKc hPc (ci := 10) (q0 := 0) rfl rfl, fun U hU hW => ⟨rfl, by rw [hU], by rw [hU]; exact hPc, va_K.moved hW.alike hKc, hDc.weaken (fun _ _ _ _ => trivial)⟩⟩ rfl rfl hl.1 rfl (lv_room (Nat.le_of_ble_eq_true rfl)) dX3_readAtom_43 ⟨Nat.le_of_ble_eq_true rfl, Nat.le_of_ble_eq_true rfl⟩) hS (fun q _ h => hFc q h) hFc (fun ra42 u t H1 locs ht hvm hwra42 hB hz1 hk1 hS => ?_)
      obtain ⟨x43, x44, hP1, hK1, hD1⟩ := hB
      rw [ht] at hP1
      obtain ⟨hP, hD⟩ := va_join (wr := (wd_b958b9da h0 h1 h3 x32 h3 g1 fn36)) (w1 := (wd_82cdd16b h1 h2 v1 x43 x44 x35 h2 g0 f5)) hP hD [1, 2] [0, 3] rfl rfl (by decide) (by decide) hk1 hFc hP1 hD1
      generalize H1 = H at hP hS ⊢
      have hP := hP.sub (ws' := (wd_1ad0248d h0 h1 h3 x32 h1 h2 v1 x43 x44 x35 h2 g0 f5 h3 g1 fn36)) [0, 2, 3, 1] rfl
      have hD := hD.sub (ws' := (wd_1ad0248d h0 h1 h3 x32 h1 h2 v1 x43 x44 x35 h2 g0 f5 h3 g1 fn36)) [0, 2, 3, 1] (by decide) rfl
      have hP : va_P (dC, dI) vwCl (wd_1ad0248d h0 h1 h3 x32 h1 h2 v1 x43 x44 x35 h2 g0 f5 h3 g1 fn36) H := hP
      have hD : va_D A (wd_1ad0248d h0 h1 h3 x32 h1 h2 v1 x43 x44 x35 h2 g0 f5 h3 g1 fn36) := hD
      obtain ⟨wa_ra42, wb_ra42⟩ := hwra42
      have wa_ra42 : 0 ≤ ra42.toInt := wa_ra42
      have wb_ra42 : ra42.toInt ≤ 1 := wb_ra42
      refine lv_if_eq (tgt := 53) hx hb dX3_readAtom_46 (by decide) (fun c45 => ?_) (fun c45 => ?_)
      · skip
        have fc45 : ra42.toInt = 0 := congrArg Int32.toInt c45
        refine lv_iconst (v := 0) hx hb dX3_readAtom_53 (by decide) ?_
        exact hJ40 0 x43 x44 H locs ls (by first | omega | decide) (by first | omega | decide) hP hD hS (lv_sub hl [0, 1, 2] rfl)
      · skip
        have fc45 : ¬ (ra42.toInt = 0) := fun h9 => c45 (Int32.toInt_inj.mp h9)
        refine lv_iconst (v := 1) hx hb dX3_readAtom_49 (by decide) ?_
        refine lv_goto (tgt := 54) hx hb dX3_readAtom_50 (by decide) ?_
        exact hJ40 1 x43 x44 H locs ls (by first | omega | decide) (by first | omega | decide) hP hD hS (lv_sub hl [0, 1, 2] rfl)
def q_X3_readTerm_1 : List Cond := .code yX3_readTerm cX3_readTerm 4 (some .boolean) :: (([.code yX3_readAtom cX3_readAtom 4 (some .boolean), .fieldLink RX3 19 "LeftArguments$LawReader" "tape" "LLeftArguments$Tape;", .code yX10_next cX10_next 1 (some .int), .fieldLink RX10 19 "LeftArguments$Tape" "at" "I", .fieldLink RX10 15 "LeftArguments$Tape" "used" "I", .fieldLink RX10 9 "LeftArguments$Tape" "bytes" "[I", .initialized RX10, .instanceMethod yX10_next, .selects RX10 yX10_next yX10_next, .methodLink RX3 48 yX10_next, .code yX10_isDigit cX10_isDigit 1 (some .boolean), .static yX10_isDigit, .methodLink RX3 92 yX10_isDigit, .code yX10_step cX10_step 1 none, .instanceMethod yX10_step, .selects RX10 yX10_step yX10_step, .methodLink RX3 77 yX10_step, .code yX3_write cX3_write 3 none, .fieldLink RX3 15 "LeftArguments$LawReader" "used" "I", .fieldLink RX3 11 "LeftArguments$LawReader" "code" "[I", .initialized RX3, .instanceMethod yX3_write, .selects RX3 yX3_write yX3_write, .methodLink RX3 66 yX3_write, .code yX10_wrongHere cX10_wrongHere 1 (some .boolean), .fieldLink RX10 22 "LeftArguments$Tape" "wrongAt" "I", .instanceMethod yX10_wrongHere, .selects RX10 yX10_wrongHere yX10_wrongHere, .methodLink RX3 83 yX10_wrongHere, .code yJ0_indexOf_0f7a4 cJ0_indexOf_0f7a4 2 (some .int), .code yJ0_indexOf_7cf53 cJ0_indexOf_7cf53 3 (some .int), .code yJ0_isLatin1_aae02 cJ0_isLatin1_aae02 1 (some .boolean), .fieldLink RJ0 38 "java/lang/String" "COMPACT_STRINGS" "Z", .fieldLink RJ0 15 "java/lang/String" "coder" "B", .initialized RJ0, .instanceMethod yJ0_isLatin1_aae02, .selects RJ0 yJ0_isLatin1_aae02 yJ0_isLatin1_aae02, .methodLink RJ0 492 yJ0_isLatin1_aae02, .fieldLink RJ0 9 "java/lang/String" "value" "[B", .code yJ0_length_8abf5 cJ0_length_8abf5 1 (some .int), .code yJ0_coder_7d493 cJ0_coder_7d493 1 (some .byte), .instanceMethod yJ0_coder_7d493, .selects RJ0 yJ0_coder_7d493 yJ0_coder_7d493, .methodLink RJ0 335 yJ0_coder_7d493, .instanceMethod yJ0_length_8abf5, .selects RJ0 yJ0_length_8abf5 yJ0_length_8abf5, .methodLink RJ0 505 yJ0_length_8abf5, .code yJ1_indexOf_4cfef cJ1_indexOf_4cfef 4 (some .int), .code yJ1_canEncode_9a6ad cJ1_canEncode_9a6ad 1 (some .boolean), .initialized RJ1, .static yJ1_canEncode_9a6ad, .methodLink RJ1 88 yJ1_canEncode_9a6ad, .methodLink RJ1 92 Lib.Math.max.name, .static Lib.Math.max.name, .initialized "java/lang/Math", .code Lib.Math.max.name Lib.Math.max.code 2 (some .int), .methodLink RJ1 38 Lib.Math.min.name, .static Lib.Math.min.name, .code Lib.Math.min.name Lib.Math.min.code 2 (some .int), .code yJ1_indexOfChar_4cfef cJ1_indexOfChar_4cfef 6 (some .int), .static yJ1_indexOfChar_4cfef, .methodLink RJ1 95 yJ1_indexOfChar_4cfef, .static yJ1_indexOf_4cfef, .methodLink RJ0 637 yJ1_indexOf_4cfef, .instanceMethod yJ0_indexOf_7cf53, .selects RJ0 yJ0_indexOf_7cf53 yJ0_indexOf_7cf53, .methodLink RJ0 633 yJ0_indexOf_7cf53, .instanceMethod yJ0_indexOf_0f7a4, .selects RJ0 yJ0_indexOf_0f7a4 yJ0_indexOf_0f7a4, .methodLink RX3 103 yJ0_indexOf_0f7a4, .code yX10_takeNumber cX10_takeNumber 3 (some .boolean), .methodLink RX10 37 yX10_next, .methodLink RX10 45 yX10_isDigit, .fieldLink RX10 25 "LeftArguments$Tape" "number" "I", .code yX10_sign cX10_sign 1 (some .int), .instanceMethod yX10_sign, .selects RX10 yX10_sign yX10_sign, .methodLink RX10 49 yX10_sign, .methodLink RX10 41 yX10_wrongHere, .instanceMethod yX10_takeNumber, .selects RX10 yX10_takeNumber yX10_takeNumber, .methodLink RX3 95 yX10_takeNumber, .code yX10_number cX10_number 1 (some .int), .instanceMethod yX10_number, .selects RX10 yX10_number yX10_number, .methodLink RX3 98 yX10_number, .code yX3_readSum cX3_readSum 4 (some .boolean), .code yX3_readTerm cX3_readTerm 4 (some .boolean), .instanceMethod yX3_readAtom, .selects RX3 yX3_readAtom yX3_readAtom, .methodLink RX3 89 yX3_readAtom, .instanceMethod yX3_readTerm, .selects RX3 yX3_readTerm yX3_readTerm, .methodLink RX3 86 yX3_readTerm, .instanceMethod yX3_readSum, .selects RX3 yX3_readSum yX3_readSum, .methodLink RX3 59 yX3_readSum, .code yX10_take cX10_take 2 (some .boolean), .instanceMethod yX10_take, .selects RX10 yX10_take yX10_take, .methodLink RX3 51 yX10_take] : List Cond) ++ wsX30 ++ wsX100)
set_option maxRecDepth 20000 in
theorem g_X3_readTerm_1_0 : GoodIn q_X3_readTerm_1 (wsV RX3 89 RX3 yX3_readAtom q_X3_readAtom_1) := goodIn_app (goodIn_r _ [91, 89, 90, 21] rfl (by decide +kernel)) (goodIn_ca (goodIn_ca (goodIn_r (.code yX3_readAtom cX3_readAtom 4 (some .boolean) :: [.fieldLink RX3 19 "LeftArguments$LawReader" "tape" "LLeftArguments$Tape;", .code yX10_next cX10_next 1 (some .int), .fieldLink RX10 19 "LeftArguments$Tape" "at" "I", .fieldLink RX10 15 "LeftArguments$Tape" "used" "I", .fieldLink RX10 9 "LeftArguments$Tape" "bytes" "[I", .initialized RX10, .instanceMethod yX10_next, .selects RX10 yX10_next yX10_next, .methodLink RX3 48 yX10_next, .code yX10_isDigit cX10_isDigit 1 (some .boolean), .static yX10_isDigit, .methodLink RX3 92 yX10_isDigit, .code yX10_step cX10_step 1 none, .instanceMethod yX10_step, .selects RX10 yX10_step yX10_step, .methodLink RX3 77 yX10_step, .code yX3_write cX3_write 3 none, .fieldLink RX3 15 "LeftArguments$LawReader" "used" "I", .fieldLink RX3 11 "LeftArguments$LawReader" "code" "[I", .initialized RX3, .instanceMethod yX3_write, .selects RX3 yX3_write yX3_write, .methodLink RX3 66 yX3_write, .code yX10_wrongHere cX10_wrongHere 1 (some .boolean), .fieldLink RX10 22 "LeftArguments$Tape" "wrongAt" "I", .instanceMethod yX10_wrongHere, .selects RX10 yX10_wrongHere yX10_wrongHere, .methodLink RX3 83 yX10_wrongHere, .code yJ0_indexOf_0f7a4 cJ0_indexOf_0f7a4 2 (some .int), .code yJ0_indexOf_7cf53 cJ0_indexOf_7cf53 3 (some .int), .code yJ0_isLatin1_aae02 cJ0_isLatin1_aae02 1 (some .boolean), .fieldLink RJ0 38 "java/lang/String" "COMPACT_STRINGS" "Z", .fieldLink RJ0 15 "java/lang/String" "coder" "B", .initialized RJ0, .instanceMethod yJ0_isLatin1_aae02, .selects RJ0 yJ0_isLatin1_aae02 yJ0_isLatin1_aae02, .methodLink RJ0 492 yJ0_isLatin1_aae02, .fieldLink RJ0 9 "java/lang/String" "value" "[B", .code yJ0_length_8abf5 cJ0_length_8abf5 1 (some .int), .code yJ0_coder_7d493 cJ0_coder_7d493 1 (some .byte), .instanceMethod yJ0_coder_7d493, .selects RJ0 yJ0_coder_7d493 yJ0_coder_7d493, .methodLink RJ0 335 yJ0_coder_7d493, .instanceMethod yJ0_length_8abf5, .selects RJ0 yJ0_length_8abf5 yJ0_length_8abf5, .methodLink RJ0 505 yJ0_length_8abf5, .code yJ1_indexOf_4cfef cJ1_indexOf_4cfef 4 (some .int), .code yJ1_canEncode_9a6ad cJ1_canEncode_9a6ad 1 (some .boolean), .initialized RJ1, .static yJ1_canEncode_9a6ad, .methodLink RJ1 88 yJ1_canEncode_9a6ad, .methodLink RJ1 92 Lib.Math.max.name, .static Lib.Math.max.name, .initialized "java/lang/Math", .code Lib.Math.max.name Lib.Math.max.code 2 (some .int), .methodLink RJ1 38 Lib.Math.min.name, .static Lib.Math.min.name, .code Lib.Math.min.name Lib.Math.min.code 2 (some .int), .code yJ1_indexOfChar_4cfef cJ1_indexOfChar_4cfef 6 (some .int), .static yJ1_indexOfChar_4cfef, .methodLink RJ1 95 yJ1_indexOfChar_4cfef, .static yJ1_indexOf_4cfef, .methodLink RJ0 637 yJ1_indexOf_4cfef, .instanceMethod yJ0_indexOf_7cf53, .selects RJ0 yJ0_indexOf_7cf53 yJ0_indexOf_7cf53, .methodLink RJ0 633 yJ0_indexOf_7cf53, .instanceMethod yJ0_indexOf_0f7a4, .selects RJ0 yJ0_indexOf_0f7a4 yJ0_indexOf_0f7a4, .methodLink RX3 103 yJ0_indexOf_0f7a4, .code yX10_takeNumber cX10_takeNumber 3 (some .boolean), .methodLink RX10 37 yX10_next, .methodLink RX10 45 yX10_isDigit, .fieldLink RX10 25 "LeftArguments$Tape" "number" "I", .code yX10_sign cX10_sign 1 (some .int), .instanceMethod yX10_sign, .selects RX10 yX10_sign yX10_sign, .methodLink RX10 49 yX10_sign, .methodLink RX10 41 yX10_wrongHere, .instanceMethod yX10_takeNumber, .selects RX10 yX10_takeNumber yX10_takeNumber, .methodLink RX3 95 yX10_takeNumber, .code yX10_number cX10_number 1 (some .int), .instanceMethod yX10_number, .selects RX10 yX10_number yX10_number, .methodLink RX3 98 yX10_number, .code yX3_readSum cX3_readSum 4 (some .boolean), .code yX3_readTerm cX3_readTerm 4 (some .boolean), .code yX3_readAtom cX3_readAtom 4 (some .boolean), .instanceMethod yX3_readAtom, .selects RX3 yX3_readAtom yX3_readAtom, .methodLink RX3 89 yX3_readAtom, .instanceMethod yX3_readTerm, .selects RX3 yX3_readTerm yX3_readTerm, .methodLink RX3 86 yX3_readTerm, .instanceMethod yX3_readSum, .selects RX3 yX3_readSum yX3_readSum, .methodLink RX3 59 yX3_readSum, .code yX10_take cX10_take 2 (some .boolean), .instanceMethod yX10_take, .selects RX10 yX10_take yX10_take, .methodLink RX3 51 yX10_take]) [1, 2, 3, 4, 5, 6, 7, 8, 9, 10, 11, 12, 13, 14, 15, 16, 17, 18, 19, 20, 21, 22, 23, 24, 25, 26, 27, 28, 29, 30, 31, 32, 33, 34, 35, 36, 37, 38, 39, 40, 41, 42, 43, 44, 45, 46, 47, 48, 49, 50, 51, 52, 53, 54, 55, 56, 57, 58, 59, 60, 61, 62, 63, 64, 65, 66, 67, 68, 69, 70, 71, 72, 73, 74, 75, 76, 77, 78, 79, 80, 81, 82, 83, 84, 85, 86, 87, 88, 1, 89, 90, 91, 92, 93, 94, 95, 96, 97, 98, 99, 100, 101] rfl (by decide +kernel)) (goodIn_sub (fun _ h => List.mem_cons_of_mem _ (List.mem_append_left _ (List.mem_append_right _ h))) gwX3)) (goodIn_sub (fun _ h => List.mem_cons_of_mem _ (List.mem_append_right _ h)) gwX10))
set_option maxRecDepth 20000 in
theorem g_X3_readTerm_1_1 : GoodIn q_X3_readTerm_1 (wsV RX3 48 RX10 yX10_next q_X10_next) := goodIn_app (goodIn_r _ [10, 8, 9, 7] rfl (by decide +kernel)) (goodIn_ca (goodIn_r (.code yX10_next cX10_next 1 (some .int) :: [.fieldLink RX10 19 "LeftArguments$Tape" "at" "I", .fieldLink RX10 15 "LeftArguments$Tape" "used" "I", .fieldLink RX10 9 "LeftArguments$Tape" "bytes" "[I"]) [3, 4, 5, 6] rfl (by decide +kernel)) (goodIn_sub (fun _ h => List.mem_cons_of_mem _ (List.mem_append_right _ h)) gwX10))
set_option maxRecDepth 20000 in
theorem g_X3_readTerm_1_2 : GoodIn q_X3_readTerm_1 (wsV RX3 77 RX10 yX10_step q_X10_step) := goodIn_app (goodIn_r _ [17, 15, 16, 7] rfl (by decide +kernel)) (goodIn_ca (goodIn_r (.code yX10_step cX10_step 1 none :: [.fieldLink RX10 19 "LeftArguments$Tape" "at" "I"]) [14, 4] rfl (by decide +kernel)) (goodIn_sub (fun _ h => List.mem_cons_of_mem _ (List.mem_append_right _ h)) gwX10))
set_option maxRecDepth 20000 in
theorem g_X3_readTerm_1_4 : GoodIn q_X3_readTerm_1 (wsV RX3 66 RX3 yX3_write q_X3_write) := goodIn_app (goodIn_r _ [24, 22, 23, 21] rfl (by decide +kernel)) (goodIn_ca (goodIn_r (.code yX3_write cX3_write 3 none :: [.fieldLink RX3 15 "LeftArguments$LawReader" "used" "I", .fieldLink RX3 11 "LeftArguments$LawReader" "code" "[I"]) [18, 19, 20] rfl (by decide +kernel)) (goodIn_sub (fun _ h => List.mem_cons_of_mem _ (List.mem_append_left _ (List.mem_append_right _ h))) gwX3))
set_option maxHeartbeats 4000000 in
set_option maxRecDepth 100000 in
theorem k_X3_readTerm_1 (l : Launch) (dC : Nat → ClassId) (dI : Nat → Nat → Nat) (adK : Nat → Nat) (adV : Nat → Nat) (h0 : Nat) (h1 : Nat) (h2 : Nat) (h3 : Nat) (v0 : Int32) (v1 : Int32) (v2 : Int32) (v3 : Int32) (v4 : Int32) (g0 : ClassId) (f5 : Nat → Int32) (g1 : ClassId) (f6 : Nat → Int32) (i_v0 : 0 ≤ v0.toInt ∧ v0.toInt ≤ 256) (i_v1 : 0 ≤ v1.toInt ∧ v1.toInt ≤ 240) (sz : Nat) : Met l yX3_readTerm q_X3_readTerm_1 ({ frames := 8, cells := 0, slots := 0, locals := 183 }) (va_Pc [.ref h0, .int 5] (fun U => U.heap.size = sz ∧ va_P (dC, dI) vwCl (wd_1ad0248d h0 h1 h3 v0 h1 h2 v1 v2 v3 v4 h2 g0 f5 h3 g1 f6) U.heap ∧ va_K (dC, dI) vwCl [(g0, .int), (g1, .int)] U ∧ va_D (fun _ => True) (wd_1ad0248d h0 h1 h3 v0 h1 h2 v1 v2 v3 v4 h2 g0 f5 h3 g1 f6) ∧ vk_R RX3 101 "zaondt" (adK 2) U ∧ va_Z "java/lang/String" "COMPACT_STRINGS" "Z" (.int 1) (va_A (wd_1ad0248d h0 h1 h3 v0 h1 h2 v1 v2 v3 v4 h2 g0 f5 h3 g1 f6) sz) U U.heap ∧ vk_S 3 pv_len3 pv_byt3 adK adV (va_A (wd_1ad0248d h0 h1 h3 v0 h1 h2 v1 v2 v3 v4 h2 g0 f5 h3 g1 f6) sz) U U.heap)) (va_Qi (fun (r : Int32) (_ : Unit) => 0 ≤ r.toInt ∧ r.toInt ≤ 1) (fun (_ : Unit) (t : State) => ∃ (o_h0_2 : Int32) (o_h1_2 : Int32) (o_h1_3 : Int32) (o_h1_4 : Int32) (o_h3 : Nat → Int32), 0 ≤ o_h0_2.toInt ∧ o_h0_2.toInt ≤ 256 ∧ va_P (dC, dI) vwCl (wd_1ad0248d h0 h1 h3 o_h0_2 h1 h2 v1 o_h1_2 o_h1_3 o_h1_4 h2 g0 f5 h3 g1 o_h3) t.heap ∧ va_K (dC, dI) vwCl [] t ∧ va_D (va_A (wd_1ad0248d h0 h1 h3 v0 h1 h2 v1 v2 v3 v4 h2 g0 f5 h3 g1 f6) sz) (wd_1ad0248d h0 h1 h3 o_h0_2 h1 h2 v1 o_h1_2 o_h1_3 o_h1_4 h2 g0 f5 h3 g1 o_h3)) (va_A (wd_1ad0248d h0 h1 h3 v0 h1 h2 v1 v2 v3 v4 h2 g0 f5 h3 g1 f6) sz)) 0 0 (va_A (wd_1ad0248d h0 h1 h3 v0 h1 h2 v1 v2 v3 v4 h2 g0 f5 h3 g1 f6) sz) := by
  refine Met.ofW (cc := cX3_readTerm) (maxL := 4) (ret := (some .boolean)) (by decide) rfl ?_
  intro p e s m args below meth c s₁ B hml hv
  obtain ⟨i_v0a, i_v0b⟩ := i_v0
  obtain ⟨i_v1a, i_v1b⟩ := i_v1
  obtain ⟨rfl, hsz, hP, hK, hD0, h_vr_2, h_st_CS, h_st_S⟩ := hv
  have hx := B.exec
  have hb := B.bytes
  have hr := B.returns
  have hts := atoms_spec (ws := q_X3_readTerm_1) B.pre
  have hown : s.vm.findClass RX3 = some m.cls := findClass_of_methodNamed B.named
  have hlocks := B.notSynchronized
  subst hsz
  have hD := hD0.self (sz := s.heap.size)
  generalize hAe : va_A (wd_1ad0248d h0 h1 h3 v0 h1 h2 v1 v2 v3 v4 h2 g0 f5 h3 g1 f6) s.heap.size = A at hD h_st_CS h_st_S ⊢
  have hA : ∀ q : Nat, s.heap.size ≤ q → A q := fun q h => by rw [← hAe]; exact Or.inr h
  have hS : va_S A s.heap s.heap [] := va_S.rf
  generalize hQ : (MQ below _ _ s 0 0 A) = Q
  have hl := lv_entry ([.ref h0, .int 5]) (n := 4) (Nat.le_of_ble_eq_true rfl)
  rw [lg_entry_eq]
  generalize (lg_sl ([.ref h0, .int 5]) ++ List.replicate (4 - (lg_sl ([.ref h0, .int 5])).length) Slot.unset).toArray = ls at hl ⊢
  have hl : lv_has ls 4 [(0, .ref h0), (1, .int 5)] := hl
  obtain ⟨H, hH⟩ : ∃ H : Heap, H = s.heap := ⟨_, rfl⟩
  obtain ⟨locs, hlocs⟩ : ∃ y : List Loc, y = [] := ⟨_, rfl⟩
  have hS : va_S A s.heap H locs := by rw [hH, hlocs]; exact va_S.rf
  have hP : va_P (dC, dI) vwCl (wd_1ad0248d h0 h1 h3 v0 h1 h2 v1 v2 v3 v4 h2 g0 f5 h3 g1 f6) H := by rw [hH]; exact hP
  rw [← hH, ← hlocs]
  refine lv_aload_n hx hb dX3_readTerm_0 rfl (lv_at hl 0 rfl) ?_
  refine lv_iload_n hx hb dX3_readTerm_1 rfl (lv_at hl 1 rfl) ?_
  have hPc := hP.sub (ws' := (wd_1ad0248d h0 h1 h3 v0 h1 h2 v1 v2 v3 v4 h2 g0 f5 h3 g1 f6)) [0, 1, 2, 3] rfl
  have hDc := hD.sub (ws' := (wd_1ad0248d h0 h1 h3 v0 h1 h2 v1 v2 v3 v4 h2 g0 f5 h3 g1 f6)) [0, 1, 2, 3] (by decide) rfl
  have hKc := hK.sub (tys' := [(g0, .int), (g1, .int)]) [0, 1] rfl
  have hFc := va_free (wc := (wd_1ad0248d h0 h1 h3 v0 h1 h2 v1 v2 v3 v4 h2 g0 f5 h3 g1 f6)) hD hS hA [0, 1, 2, 3] rfl
  refine va_calli (va_runV (As := [.int 5]) (rest := []) ⟨hx, hb, hml, hown, hts⟩ (k_X3_readAtom_1 l dC dI adK adV h0 h1 h2 h3 v0 v1 v2 v3 v4 g0 f5 g1 f6 ⟨by first | omega | decide, by first | omega | decide⟩ ⟨by first | omega | decide, by first | omega | decide⟩ H.size) (cwV 1 hts g_X3_readTerm_1_0 rfl rfl rfl (by decide +kernel) ⟨Nat.le_of_ble_eq_true rfl, Nat.le_of_ble_eq_true rfl⟩) ⟨fun a U g mk q => by obtain ⟨q0, q1, qP, qK, qD, n0, n1, n2⟩ := q; exact ⟨q0, q1, qP, va_K.moved (u := U) (U := U.calling g mk a) (Vm.Alike.refl U.vm) qK, qD, vk_R.same rfl n0, va_Z.moved (Vm.Alike.refl _) n1, vk_S.moved (Vm.Alike.refl _) n2⟩, va_recv hKc hPc (ci := 3) (q0 := 0) rfl rfl, fun U hU hW => ⟨rfl, by rw [hU], by rw [hU]; exact hPc, va_K.moved hW.alike hKc, hDc.weaken (fun _ _ _ _ => trivial), vk_R.warm hW h_vr_2, (by rw [hU]; exact (va_Z.moved hW.alike (va_Z.kept h_st_CS hS.2.1)).narrow hFc), (by rw [hU]; exact (vk_S.moved hW.alike (vk_S.kept h_st_S hS.2.1)).narrow hFc)⟩⟩ rfl rfl hl.1 rfl (lv_room (Nat.le_of_ble_eq_true rfl)) dX3_readTerm_2 ⟨Nat.le_of_ble_eq_true rfl, Nat.le_of_ble_eq_true rfl⟩) hS (fun q _ h => hFc q h) hFc (fun ra1 u t H1 locs ht hvm hwra1 hB hz1 hk1 hS => ?_)
  obtain ⟨x2, x3, x4, x5, fn6, oa_x2, ob_x2, hP1, hK1, hD1⟩ := hB
  rw [ht] at hP1
  obtain ⟨hP, hD⟩ := va_join (wr := []) (w1 := (wd_1ad0248d h0 h1 h3 x2 h1 h2 v1 x3 x4 x5 h2 g0 f5 h3 g1 fn6)) hP hD [0, 1, 2, 3] [] rfl rfl (by decide) (by decide) hk1 hFc hP1 hD1
  generalize H1 = H at hP hS ⊢
  have hP : va_P (dC, dI) vwCl (wd_1ad0248d h0 h1 h3 x2 h1 h2 v1 x3 x4 x5 h2 g0 f5 h3 g1 fn6) H := hP
  have hD : va_D A (wd_1ad0248d h0 h1 h3 x2 h1 h2 v1 x3 x4 x5 h2 g0 f5 h3 g1 fn6) := hD
  obtain ⟨wa_ra1, wb_ra1⟩ := hwra1
  have wa_ra1 : 0 ≤ ra1.toInt := wa_ra1
  have wb_ra1 : ra1.toInt ≤ 1 := wb_ra1
  refine lv_if_ne (tgt := 10) hx hb dX3_readTerm_5 (by decide) (fun c7 => ?_) (fun c7 => ?_)
  · skip
    have fc7 : ¬ (ra1.toInt = 0) := fun h9 => c7 (Int32.toInt_inj.mp h9)
    refine lv_iconst (v := 0) hx hb dX3_readTerm_10 (by decide) ?_
    refine lv_istore_n (lv' := [(2, .int 0), (0, .ref h0), (1, .int 5)]) hx hb dX3_readTerm_11 rfl hl (by decide) rfl (fun ls hl => ?_)
    have hL122 : ∀ (n9 : Nat), ∀ (x110 : Int32) (x111 : Int32) (x112 : Int32) (x113 : Int32) (x114 : Int32) (fn115 : Nat → Int32) (H : Heap) (locs : List Loc) (ls : Array Slot), 0 ≤ x110.toInt → x110.toInt ≤ 240 → 0 ≤ x111.toInt → x111.toInt ≤ 256 → (240 - x110.toInt).toNat < n9 → va_P (dC, dI) vwCl (wd_1ad0248d h0 h1 h3 x111 h1 h2 v1 x112 x113 x114 h2 g0 f5 h3 g1 fn115) H → va_D A (wd_1ad0248d h0 h1 h3 x111 h1 h2 v1 x112 x113 x114 h2 g0 f5 h3 g1 fn115) → va_S A s.heap H locs → lv_has ls 4 [(2, .int x110), (0, .ref h0), (1, .int 5)] → W p l e ({ frames := 8, cells := 0, slots := 0, locals := 183 }) s m ([.ref h0, .int 5] : List Value).toArray below meth c H locs 0 0 Q (F0 m 12 ls []) := by
      intro n9
      induction n9 with
      | zero => intro x110 x111 x112 x113 x114 fn115 H locs ls qa_x110 qb_x110 qa_x111 qb_x111 hm9 hP hD hS hl; exact absurd hm9 (Nat.not_lt_zero _)
      | succ n9 ih_hL122 =>
        intro x110 x111 x112 x113 x114 fn115 H locs ls qa_x110 qb_x110 qa_x111 qb_x111 hm9 hP hD hS hl
        refine lv_iload_n hx hb dX3_readTerm_12 rfl (lv_at hl 0 rfl) ?_
        refine lv_sipush (v := 240) hx hb dX3_readTerm_13 (by decide) ?_
        refine lv_icmp_ge (tgt := 80) hx hb dX3_readTerm_16 (by decide) (fun c123 => ?_) (fun c123 => ?_)
        · skip
          have fc123 : 240 ≤ x110.toInt := Int32.le_iff_toInt_le.mp c123
          refine lv_iconst (v := 1) hx hb dX3_readTerm_80 (by decide) ?_
          subst hQ
          have hP9 := hP.sub (ws' := (wd_1ad0248d h0 h1 h3 x111 h1 h2 v1 x112 x113 x114 h2 g0 f5 h3 g1 fn115)) [0, 1, 2, 3] rfl
          have hD9 := hD.sub (ws' := (wd_1ad0248d h0 h1 h3 x111 h1 h2 v1 x112 x113 x114 h2 g0 f5 h3 g1 fn115)) [0, 1, 2, 3] (by decide) rfl
          have hK9 := hK.sub (tys' := []) [] rfl
          exact W.zret (v := 1) hx hb hr rfl (fun t ht hW => ⟨⟨1, (), rfl, ⟨by first | omega | decide, by first | omega | decide⟩, x111, x112, x113, x114, fn115, by first | omega | decide, by first | omega | decide, by rw [ht]; exact hP9, va_K.moved hW.alike hK9, hD9⟩, hS.F ht⟩) hS.2.2 dX3_readTerm_81
        · skip
          have fc123 : ¬ (240 ≤ x110.toInt) := fun h9 => c123 (Int32.le_iff_toInt_le.mpr h9)
          refine lv_aload_n hx hb dX3_readTerm_19 rfl (lv_at hl 1 rfl) ?_
          refine va_get (D := (dC, dI)) (ci := 3) (v := .ref h1) (C := RX3) (T := TX3) (N := 3) hx hb hts (fun _ h => List.mem_cons_of_mem _ (List.mem_append_left _ (List.mem_append_right _ h))) hown hK hP 0 rfl rfl 0 (by decide) (hts (.fieldLink RX3 19 "LeftArguments$LawReader" "tape" "LLeftArguments$Tape;") (List.mem_cons_of_mem _ (List.mem_append_left _ (List.mem_append_left _ (List.mem_of_getElem? (i := 1) rfl))))) (fun _ h9 => h9) rfl dX3_readTerm_20 ?_
          have hPc := hP.sub (ws' := (wd_82cdd16b h1 h2 v1 x112 x113 x114 h2 g0 f5)) [1, 2] rfl
          have hDc := hD.sub (ws' := (wd_82cdd16b h1 h2 v1 x112 x113 x114 h2 g0 f5)) [1, 2] (by decide) rfl
          have hKc := hK.sub (tys' := [(g0, .int)]) [0] rfl
          have hFc := va_free (wc := (wd_82cdd16b h1 h2 v1 x112 x113 x114 h2 g0 f5)) hD hS hA [1, 2] rfl
          refine va_calli (va_runV (As := []) (rest := []) ⟨hx, hb, hml, hown, hts⟩ (k_X10_next l dC dI h1 h2 v1 x112 x113 x114 g0 f5 ⟨by first | omega | decide, by first | omega | decide⟩ H.size) (cwV 0 hts g_X3_readTerm_1_1 rfl rfl rfl (by decide +kernel) ⟨Nat.le_of_ble_eq_true rfl, Nat.le_of_ble_eq_true rfl⟩) ⟨fun a U g mk q => by obtain ⟨q0, q1, qP, qK, qD⟩ := q; exact ⟨q0, q1, qP, va_K.moved (u := U) (U := U.calling g mk a) (Vm.Alike.refl U.vm) qK, qD⟩, va_recv hKc hPc (ci := 10) (q0 := 0) rfl rfl, fun U hU hW => ⟨rfl, by rw [hU], by rw [hU]; exact hPc, va_K.moved hW.alike hKc, hDc.weaken (fun _ _ _ _ => trivial)⟩⟩ rfl rfl hl.1 rfl (lv_room (Nat.le_of_ble_eq_true rfl)) dX3_readTerm_23 ⟨Nat.le_of_ble_eq_true rfl, Nat.le_of_ble_eq_true rfl⟩) hS (fun q _ h => hFc q h) hFc (fun ra124 u t H1 locs ht hvm hwra124 hB hz1 hk1 hS => ?_)
          obtain ⟨x125, hP1, hK1, hD1⟩ := hB
          rw [ht] at hP1
          obtain ⟨hP, hD⟩ := va_join (wr := (wd_b958b9da h0 h1 h3 x111 h3 g1 fn115)) (w1 := (wd_82cdd16b h1 h2 v1 x125 x113 x114 h2 g0 f5)) hP hD [1, 2] [0, 3] rfl rfl (by decide) (by decide) hk1 hFc hP1 hD1
          generalize H1 = H at hP hS ⊢
          have hP := hP.sub (ws' := (wd_1ad0248d h0 h1 h3 x111 h1 h2 v1 x125 x113 x114 h2 g0 f5 h3 g1 fn115)) [0, 2, 3, 1] rfl
          have hD := hD.sub (ws' := (wd_1ad0248d h0 h1 h3 x111 h1 h2 v1 x125 x113 x114 h2 g0 f5 h3 g1 fn115)) [0, 2, 3, 1] (by decide) rfl
          have hP : va_P (dC, dI) vwCl (wd_1ad0248d h0 h1 h3 x111 h1 h2 v1 x125 x113 x114 h2 g0 f5 h3 g1 fn115) H := hP
          have hD : va_D A (wd_1ad0248d h0 h1 h3 x111 h1 h2 v1 x125 x113 x114 h2 g0 f5 h3 g1 fn115) := hD
          refine lv_istore_n (lv' := [(3, .int ra124), (2, .int x110), (0, .ref h0), (1, .int 5)]) hx hb dX3_readTerm_26 rfl hl (by decide) rfl (fun ls hl => ?_)
          refine lv_iload_n hx hb dX3_readTerm_27 rfl (lv_at hl 0 rfl) ?_
          refine lv_bipush (v := 42) hx hb dX3_readTerm_28 (by decide) ?_
          refine lv_icmp_eq (tgt := 41) hx hb dX3_readTerm_30 (by decide) (fun c126 => ?_) (fun c126 => ?_)
          · skip
            have fc126 : ra124.toInt = 42 := congrArg Int32.toInt c126
            refine lv_aload_n hx hb dX3_readTerm_41 rfl (lv_at hl 2 rfl) ?_
            refine va_get (D := (dC, dI)) (ci := 3) (v := .ref h1) (C := RX3) (T := TX3) (N := 3) hx hb hts (fun _ h => List.mem_cons_of_mem _ (List.mem_append_left _ (List.mem_append_right _ h))) hown hK hP 0 rfl rfl 0 (by decide) (hts (.fieldLink RX3 19 "LeftArguments$LawReader" "tape" "LLeftArguments$Tape;") (List.mem_cons_of_mem _ (List.mem_append_left _ (List.mem_append_left _ (List.mem_of_getElem? (i := 1) rfl))))) (fun _ h9 => h9) rfl dX3_readTerm_42 ?_
            have hPc := hP.sub (ws' := (wd_09b0abee h1 h2 v1 x125 x113 x114)) [1] rfl
            have hDc := hD.sub (ws' := (wd_09b0abee h1 h2 v1 x125 x113 x114)) [1] (by decide) rfl
            have hKc := hK.sub (tys' := []) [] rfl
            have hFc := va_free (wc := (wd_09b0abee h1 h2 v1 x125 x113 x114)) hD hS hA [1] rfl
            refine va_callv (va_runV (As := []) (rest := []) ⟨hx, hb, hml, hown, hts⟩ (k_X10_step l dC dI h1 h2 v1 x125 x113 x114 ⟨by first | omega | decide, by first | omega | decide⟩ H.size) (cwV 0 hts g_X3_readTerm_1_2 rfl rfl rfl (by decide +kernel) ⟨Nat.le_of_ble_eq_true rfl, Nat.le_of_ble_eq_true rfl⟩) ⟨fun a U g mk q => by obtain ⟨q0, q1, qP, qK, qD⟩ := q; exact ⟨q0, q1, qP, va_K.moved (u := U) (U := U.calling g mk a) (Vm.Alike.refl U.vm) qK, qD⟩, va_recv hKc hPc (ci := 10) (q0 := 0) rfl rfl, fun U hU hW => ⟨rfl, by rw [hU], by rw [hU]; exact hPc, va_K.moved hW.alike hKc, hDc.weaken (fun _ _ _ _ => trivial)⟩⟩ rfl rfl hl.1 rfl (lv_room (Nat.le_of_ble_eq_true rfl)) dX3_readTerm_45 ⟨Nat.le_of_ble_eq_true rfl, Nat.le_of_ble_eq_true rfl⟩) hS (fun q _ h => hFc q h) hFc (fun u t H1 locs ht hvm hwra127 hB hz1 hk1 hS => ?_)
            obtain ⟨x128, hP1, hK1, hD1⟩ := hB
            rw [ht] at hP1
            obtain ⟨hP, hD⟩ := va_join (wr := (wd_6b0d8e05 h0 h1 h3 x111 h2 g0 f5 h3 g1 fn115)) (w1 := (wd_09b0abee h1 h2 v1 x128 x113 x114)) hP hD [1] [0, 2, 3] rfl rfl (by decide) (by decide) hk1 hFc hP1 hD1
            generalize H1 = H at hP hS ⊢
            have hP := hP.sub (ws' := (wd_1ad0248d h0 h1 h3 x111 h1 h2 v1 x128 x113 x114 h2 g0 f5 h3 g1 fn115)) [0, 3, 1, 2] rfl
            have hD := hD.sub (ws' := (wd_1ad0248d h0 h1 h3 x111 h1 h2 v1 x128 x113 x114 h2 g0 f5 h3 g1 fn115)) [0, 3, 1, 2] (by decide) rfl
            have hP : va_P (dC, dI) vwCl (wd_1ad0248d h0 h1 h3 x111 h1 h2 v1 x128 x113 x114 h2 g0 f5 h3 g1 fn115) H := hP
            have hD : va_D A (wd_1ad0248d h0 h1 h3 x111 h1 h2 v1 x128 x113 x114 h2 g0 f5 h3 g1 fn115) := hD
            refine lv_aload_n hx hb dX3_readTerm_48 rfl (lv_at hl 2 rfl) ?_
            refine lv_iload_n hx hb dX3_readTerm_49 rfl (lv_at hl 3 rfl) ?_
            have hPc := hP.sub (ws' := (wd_1ad0248d h0 h1 h3 x111 h1 h2 v1 x128 x113 x114 h2 g0 f5 h3 g1 fn115)) [0, 1, 2, 3] rfl
            have hDc := hD.sub (ws' := (wd_1ad0248d h0 h1 h3 x111 h1 h2 v1 x128 x113 x114 h2 g0 f5 h3 g1 fn115)) [0, 1, 2, 3] (by decide) rfl
            have hKc := hK.sub (tys' := [(g0, .int), (g1, .int)]) [0, 1] rfl
            have hFc := va_free (wc := (wd_1ad0248d h0 h1 h3 x111 h1 h2 v1 x128 x113 x114 h2 g0 f5 h3 g1 fn115)) hD hS hA [0, 1, 2, 3] rfl
            refine va_calli (va_runV (As := [.int 5]) (rest := []) ⟨hx, hb, hml, hown, hts⟩ (k_X3_readAtom_1 l dC dI adK adV h0 h1 h2 h3 x111 v1 x128 x113 x114 g0 f5 g1 fn115 ⟨by first | omega | decide, by first | omega | decide⟩ ⟨by first | omega | decide, by first | omega | decide⟩ H.size) (cwV 1 hts g_X3_readTerm_1_0 rfl rfl rfl (by decide +kernel) ⟨Nat.le_of_ble_eq_true rfl, Nat.le_of_ble_eq_true rfl⟩) ⟨fun a U g mk q => by obtain ⟨q0, q1, qP, qK, qD, n0, n1, n2⟩ := q; exact ⟨q0, q1, qP, va_K.moved (u := U) (U := U.calling g mk a) (Vm.Alike.refl U.vm) qK, qD, vk_R.same rfl n0, va_Z.moved (Vm.Alike.refl _) n1, vk_S.moved (Vm.Alike.refl _) n2⟩, va_recv hKc hPc (ci := 3) (q0 := 0) rfl rfl, fun U hU hW => ⟨rfl, by rw [hU], by rw [hU]; exact hPc, va_K.moved hW.alike hKc, hDc.weaken (fun _ _ _ _ => trivial), vk_R.warm hW h_vr_2, (by rw [hU]; exact (va_Z.moved hW.alike (va_Z.kept h_st_CS hS.2.1)).narrow hFc), (by rw [hU]; exact (vk_S.moved hW.alike (vk_S.kept h_st_S hS.2.1)).narrow hFc)⟩⟩ rfl rfl hl.1 rfl (lv_room (Nat.le_of_ble_eq_true rfl)) dX3_readTerm_50 ⟨Nat.le_of_ble_eq_true rfl, Nat.le_of_ble_eq_true rfl⟩) hS (fun q _ h => hFc q h) hFc (fun ra129 u t H1 locs ht hvm hwra129 hB hz1 hk1 hS => ?_)
            obtain ⟨x130, x131, x132, x133, fn134, oa_x130, ob_x130, hP1, hK1, hD1⟩ := hB
            rw [ht] at hP1
            obtain ⟨hP, hD⟩ := va_join (wr := []) (w1 := (wd_1ad0248d h0 h1 h3 x130 h1 h2 v1 x131 x132 x133 h2 g0 f5 h3 g1 fn134)) hP hD [0, 1, 2, 3] [] rfl rfl (by decide) (by decide) hk1 hFc hP1 hD1
            generalize H1 = H at hP hS ⊢
            have hP : va_P (dC, dI) vwCl (wd_1ad0248d h0 h1 h3 x130 h1 h2 v1 x131 x132 x133 h2 g0 f5 h3 g1 fn134) H := hP
            have hD : va_D A (wd_1ad0248d h0 h1 h3 x130 h1 h2 v1 x131 x132 x133 h2 g0 f5 h3 g1 fn134) := hD
            obtain ⟨wa_ra129, wb_ra129⟩ := hwra129
            have wa_ra129 : 0 ≤ ra129.toInt := wa_ra129
            have wb_ra129 : ra129.toInt ≤ 1 := wb_ra129
            refine lv_if_ne (tgt := 58) hx hb dX3_readTerm_53 (by decide) (fun c135 => ?_) (fun c135 => ?_)
            · skip
              have fc135 : ¬ (ra129.toInt = 0) := fun h9 => c135 (Int32.toInt_inj.mp h9)
              refine lv_aload_n hx hb dX3_readTerm_58 rfl (lv_at hl 2 rfl) ?_
              refine lv_iload_n hx hb dX3_readTerm_59 rfl (lv_at hl 0 rfl) ?_
              refine lv_bipush (v := 42) hx hb dX3_readTerm_60 (by decide) ?_
              refine lv_icmp_ne (tgt := 69) hx hb dX3_readTerm_62 (by decide) (fun c136 => by exfalso; have fc136 : ¬ (ra124.toInt = 42) := fun h9 => c136 (Int32.toInt_inj.mp h9); omega) (fun _ => ?_)
              refine lv_iconst (v := 4) hx hb dX3_readTerm_65 (by decide) ?_
              refine lv_goto (tgt := 70) hx hb dX3_readTerm_66 (by decide) ?_
              refine lv_iconst (v := 0) hx hb dX3_readTerm_70 (by decide) ?_
              have hPc := hP.sub (ws' := (wd_b958b9da h0 h1 h3 x130 h3 g1 fn134)) [0, 3] rfl
              have hDc := hD.sub (ws' := (wd_b958b9da h0 h1 h3 x130 h3 g1 fn134)) [0, 3] (by decide) rfl
              have hKc := hK.sub (tys' := [(g1, .int)]) [1] rfl
              have hFc := va_free (wc := (wd_b958b9da h0 h1 h3 x130 h3 g1 fn134)) hD hS hA [0, 3] rfl
              refine va_callv (va_runV (As := [.int 4, .int 0]) (rest := []) ⟨hx, hb, hml, hown, hts⟩ (k_X3_write l dC dI h0 h3 h1 x130 g1 fn134 4 0 ⟨by first | omega | decide, by first | omega | decide⟩ H.size) (cwV 2 hts g_X3_readTerm_1_4 rfl rfl rfl (by decide +kernel) ⟨Nat.le_of_ble_eq_true rfl, Nat.le_of_ble_eq_true rfl⟩) ⟨fun a U g mk q => by obtain ⟨q0, q1, qP, qK, qD⟩ := q; exact ⟨q0, q1, qP, va_K.moved (u := U) (U := U.calling g mk a) (Vm.Alike.refl U.vm) qK, qD⟩, va_recv hKc hPc (ci := 3) (q0 := 0) rfl rfl, fun U hU hW => ⟨rfl, by rw [hU], by rw [hU]; exact hPc, va_K.moved hW.alike hKc, hDc.weaken (fun _ _ _ _ => trivial)⟩⟩ rfl rfl hl.1 rfl (lv_room (Nat.le_of_ble_eq_true rfl)) dX3_readTerm_71 ⟨Nat.le_of_ble_eq_true rfl, Nat.le_of_ble_eq_true rfl⟩) hS (fun q _ h => hFc q h) hFc (fun u t H1 locs ht hvm hwra137 hB hz1 hk1 hS => ?_)
              obtain ⟨x138, fn139, oa_x138, ob_x138, hP1, hK1, hD1⟩ := hB
              rw [ht] at hP1
              obtain ⟨hP, hD⟩ := va_join (wr := (wd_82cdd16b h1 h2 v1 x131 x132 x133 h2 g0 f5)) (w1 := (wd_b958b9da h0 h1 h3 x138 h3 g1 fn139)) hP hD [0, 3] [1, 2] rfl rfl (by decide) (by decide) hk1 hFc hP1 hD1
              generalize H1 = H at hP hS ⊢
              have hP := hP.sub (ws' := (wd_1ad0248d h0 h1 h3 x138 h1 h2 v1 x131 x132 x133 h2 g0 f5 h3 g1 fn139)) [2, 0, 1, 3] rfl
              have hD := hD.sub (ws' := (wd_1ad0248d h0 h1 h3 x138 h1 h2 v1 x131 x132 x133 h2 g0 f5 h3 g1 fn139)) [2, 0, 1, 3] (by decide) rfl
              have hP : va_P (dC, dI) vwCl (wd_1ad0248d h0 h1 h3 x138 h1 h2 v1 x131 x132 x133 h2 g0 f5 h3 g1 fn139) H := hP
              have hD : va_D A (wd_1ad0248d h0 h1 h3 x138 h1 h2 v1 x131 x132 x133 h2 g0 f5 h3 g1 fn139) := hD
              obtain ⟨t140, et140⟩ : ∃ y : Int32, y = x110 + 1 := ⟨_, rfl⟩
              have gt140 : t140.toInt = x110.toInt + (1) := pv_add (a := x110.toInt) (b := (1)) et140 rfl (by decide) (by omega) (by omega)
              refine lv_iinc (v := t140) (lv' := [(2, .int t140), (3, .int ra124), (0, .ref h0), (1, .int 5)]) hx hb dX3_readTerm_74 hl (k := 1) rfl (by rw [et140]; rfl) (by decide) rfl (fun ls hl => ?_)
              refine lv_goto (tgt := 12) hx hb dX3_readTerm_77 (by decide) ?_
              exact ih_hL122 t140 x138 x131 x132 x133 fn139 H locs ls (by first | omega | decide) (by first | omega | decide) (by first | omega | decide) (by first | omega | decide) (by first | omega | (simp only [Int.toNat] at *; omega)) hP hD hS (lv_sub hl [0, 2, 3] rfl)
            · skip
              have fc135 : ra129.toInt = 0 := congrArg Int32.toInt c135
              refine lv_iconst (v := 0) hx hb dX3_readTerm_56 (by decide) ?_
              subst hQ
              have hP9 := hP.sub (ws' := (wd_1ad0248d h0 h1 h3 x130 h1 h2 v1 x131 x132 x133 h2 g0 f5 h3 g1 fn134)) [0, 1, 2, 3] rfl
              have hD9 := hD.sub (ws' := (wd_1ad0248d h0 h1 h3 x130 h1 h2 v1 x131 x132 x133 h2 g0 f5 h3 g1 fn134)) [0, 1, 2, 3] (by decide) rfl
              have hK9 := hK.sub (tys' := []) [] rfl
              exact W.zret (v := 0) hx hb hr rfl (fun t ht hW => ⟨⟨0, (), rfl, ⟨by first | omega | decide, by first | omega | decide⟩, x130, x131, x132, x133, fn134, by first | omega | decide, by first | omega | decide, by rw [ht]; exact hP9, va_K.moved hW.alike hK9, hD9⟩, hS.F ht⟩) hS.2.2 dX3_readTerm_57
          · skip
            have fc126 : ¬ (ra124.toInt = 42) := fun h9 => c126 (Int32.toInt_inj.mp h9)
            refine lv_iload_n hx hb dX3_readTerm_33 rfl (lv_at hl 0 rfl) ?_
            refine lv_bipush (v := 47) hx hb dX3_readTerm_34 (by decide) ?_
            refine lv_icmp_eq (tgt := 41) hx hb dX3_readTerm_36 (by decide) (fun c141 => ?_) (fun c141 => ?_)
            · skip
              have fc141 : ra124.toInt = 47 := congrArg Int32.toInt c141
              refine lv_aload_n hx hb dX3_readTerm_41 rfl (lv_at hl 2 rfl) ?_
              refine va_get (D := (dC, dI)) (ci := 3) (v := .ref h1) (C := RX3) (T := TX3) (N := 3) hx hb hts (fun _ h => List.mem_cons_of_mem _ (List.mem_append_left _ (List.mem_append_right _ h))) hown hK hP 0 rfl rfl 0 (by decide) (hts (.fieldLink RX3 19 "LeftArguments$LawReader" "tape" "LLeftArguments$Tape;") (List.mem_cons_of_mem _ (List.mem_append_left _ (List.mem_append_left _ (List.mem_of_getElem? (i := 1) rfl))))) (fun _ h9 => h9) rfl dX3_readTerm_42 ?_
              have hPc := hP.sub (ws' := (wd_09b0abee h1 h2 v1 x125 x113 x114)) [1] rfl
              have hDc := hD.sub (ws' := (wd_09b0abee h1 h2 v1 x125 x113 x114)) [1] (by decide) rfl
              have hKc := hK.sub (tys' := []) [] rfl
              have hFc := va_free (wc := (wd_09b0abee h1 h2 v1 x125 x113 x114)) hD hS hA [1] rfl
              refine va_callv (va_runV (As := []) (rest := []) ⟨hx, hb, hml, hown, hts⟩ (k_X10_step l dC dI h1 h2 v1 x125 x113 x114 ⟨by first | omega | decide, by first | omega | decide⟩ H.size) (cwV 0 hts g_X3_readTerm_1_2 rfl rfl rfl (by decide +kernel) ⟨Nat.le_of_ble_eq_true rfl, Nat.le_of_ble_eq_true rfl⟩) ⟨fun a U g mk q => by obtain ⟨q0, q1, qP, qK, qD⟩ := q; exact ⟨q0, q1, qP, va_K.moved (u := U) (U := U.calling g mk a) (Vm.Alike.refl U.vm) qK, qD⟩, va_recv hKc hPc (ci := 10) (q0 := 0) rfl rfl, fun U hU hW => ⟨rfl, by rw [hU], by rw [hU]; exact hPc, va_K.moved hW.alike hKc, hDc.weaken (fun _ _ _ _ => trivial)⟩⟩ rfl rfl hl.1 rfl (lv_room (Nat.le_of_ble_eq_true rfl)) dX3_readTerm_45 ⟨Nat.le_of_ble_eq_true rfl, Nat.le_of_ble_eq_true rfl⟩) hS (fun q _ h => hFc q h) hFc (fun u t H1 locs ht hvm hwra142 hB hz1 hk1 hS => ?_)
              obtain ⟨x143, hP1, hK1, hD1⟩ := hB
              rw [ht] at hP1
              obtain ⟨hP, hD⟩ := va_join (wr := (wd_6b0d8e05 h0 h1 h3 x111 h2 g0 f5 h3 g1 fn115)) (w1 := (wd_09b0abee h1 h2 v1 x143 x113 x114)) hP hD [1] [0, 2, 3] rfl rfl (by decide) (by decide) hk1 hFc hP1 hD1
              generalize H1 = H at hP hS ⊢
              have hP := hP.sub (ws' := (wd_1ad0248d h0 h1 h3 x111 h1 h2 v1 x143 x113 x114 h2 g0 f5 h3 g1 fn115)) [0, 3, 1, 2] rfl
              have hD := hD.sub (ws' := (wd_1ad0248d h0 h1 h3 x111 h1 h2 v1 x143 x113 x114 h2 g0 f5 h3 g1 fn115)) [0, 3, 1, 2] (by decide) rfl
              have hP : va_P (dC, dI) vwCl (wd_1ad0248d h0 h1 h3 x111 h1 h2 v1 x143 x113 x114 h2 g0 f5 h3 g1 fn115) H := hP
              have hD : va_D A (wd_1ad0248d h0 h1 h3 x111 h1 h2 v1 x143 x113 x114 h2 g0 f5 h3 g1 fn115) := hD
              refine lv_aload_n hx hb dX3_readTerm_48 rfl (lv_at hl 2 rfl) ?_
              refine lv_iload_n hx hb dX3_readTerm_49 rfl (lv_at hl 3 rfl) ?_
              have hPc := hP.sub (ws' := (wd_1ad0248d h0 h1 h3 x111 h1 h2 v1 x143 x113 x114 h2 g0 f5 h3 g1 fn115)) [0, 1, 2, 3] rfl
              have hDc := hD.sub (ws' := (wd_1ad0248d h0 h1 h3 x111 h1 h2 v1 x143 x113 x114 h2 g0 f5 h3 g1 fn115)) [0, 1, 2, 3] (by decide) rfl
              have hKc := hK.sub (tys' := [(g0, .int), (g1, .int)]) [0, 1] rfl
              have hFc := va_free (wc := (wd_1ad0248d h0 h1 h3 x111 h1 h2 v1 x143 x113 x114 h2 g0 f5 h3 g1 fn115)) hD hS hA [0, 1, 2, 3] rfl
              refine va_calli (va_runV (As := [.int 5]) (rest := []) ⟨hx, hb, hml, hown, hts⟩ (k_X3_readAtom_1 l dC dI adK adV h0 h1 h2 h3 x111 v1 x143 x113 x114 g0 f5 g1 fn115 ⟨by first | omega | decide, by first | omega | decide⟩ ⟨by first | omega | decide, by first | omega | decide⟩ H.size) (cwV 1 hts g_X3_readTerm_1_0 rfl rfl rfl (by decide +kernel) ⟨Nat.le_of_ble_eq_true rfl, Nat.le_of_ble_eq_true rfl⟩) ⟨fun a U g mk q => by obtain ⟨q0, q1, qP, qK, qD, n0, n1, n2⟩ := q; exact ⟨q0, q1, qP, va_K.moved (u := U) (U := U.calling g mk a) (Vm.Alike.refl U.vm) qK, qD, vk_R.same rfl n0, va_Z.moved (Vm.Alike.refl _) n1, vk_S.moved (Vm.Alike.refl _) n2⟩, va_recv hKc hPc (ci := 3) (q0 := 0) rfl rfl, fun U hU hW => ⟨rfl, by rw [hU], by rw [hU]; exact hPc, va_K.moved hW.alike hKc, hDc.weaken (fun _ _ _ _ => trivial), vk_R.warm hW h_vr_2, (by rw [hU]; exact (va_Z.moved hW.alike (va_Z.kept h_st_CS hS.2.1)).narrow hFc), (by rw [hU]; exact (vk_S.moved hW.alike (vk_S.kept h_st_S hS.2.1)).narrow hFc)⟩⟩ rfl rfl hl.1 rfl (lv_room (Nat.le_of_ble_eq_true rfl)) dX3_readTerm_50 ⟨Nat.le_of_ble_eq_true rfl, Nat.le_of_ble_eq_true rfl⟩) hS (fun q _ h => hFc q h) hFc (fun ra144 u t H1 locs ht hvm hwra144 hB hz1 hk1 hS => ?_)
              obtain ⟨x145, x146, x147, x148, fn149, oa_x145, ob_x145, hP1, hK1, hD1⟩ := hB
              rw [ht] at hP1
              obtain ⟨hP, hD⟩ := va_join (wr := []) (w1 := (wd_1ad0248d h0 h1 h3 x145 h1 h2 v1 x146 x147 x148 h2 g0 f5 h3 g1 fn149)) hP hD [0, 1, 2, 3] [] rfl rfl (by decide) (by decide) hk1 hFc hP1 hD1
              generalize H1 = H at hP hS ⊢
              have hP : va_P (dC, dI) vwCl (wd_1ad0248d h0 h1 h3 x145 h1 h2 v1 x146 x147 x148 h2 g0 f5 h3 g1 fn149) H := hP
              have hD : va_D A (wd_1ad0248d h0 h1 h3 x145 h1 h2 v1 x146 x147 x148 h2 g0 f5 h3 g1 fn149) := hD
              obtain ⟨wa_ra144, wb_ra144⟩ := hwra144
              have wa_ra144 : 0 ≤ ra144.toInt := wa_ra144
              have wb_ra144 : ra144.toInt ≤ 1 := wb_ra144
              refine lv_if_ne (tgt := 58) hx hb dX3_readTerm_53 (by decide) (fun c150 => ?_) (fun c150 => ?_)
              · skip
                have fc150 : ¬ (ra144.toInt = 0) := fun h9 => c150 (Int32.toInt_inj.mp h9)
                refine lv_aload_n hx hb dX3_readTerm_58 rfl (lv_at hl 2 rfl) ?_
                refine lv_iload_n hx hb dX3_readTerm_59 rfl (lv_at hl 0 rfl) ?_
                refine lv_bipush (v := 42) hx hb dX3_readTerm_60 (by decide) ?_
                refine lv_icmp_ne (tgt := 69) hx hb dX3_readTerm_62 (by decide) (fun _ => ?_) (fun c151 => by exfalso; have fc151 : ra124.toInt = 42 := congrArg Int32.toInt c151; omega)
                refine lv_iconst (v := 5) hx hb dX3_readTerm_69 (by decide) ?_
                refine lv_iconst (v := 0) hx hb dX3_readTerm_70 (by decide) ?_
                have hPc := hP.sub (ws' := (wd_b958b9da h0 h1 h3 x145 h3 g1 fn149)) [0, 3] rfl
                have hDc := hD.sub (ws' := (wd_b958b9da h0 h1 h3 x145 h3 g1 fn149)) [0, 3] (by decide) rfl
                have hKc := hK.sub (tys' := [(g1, .int)]) [1] rfl
                have hFc := va_free (wc := (wd_b958b9da h0 h1 h3 x145 h3 g1 fn149)) hD hS hA [0, 3] rfl
                refine va_callv (va_runV (As := [.int 5, .int 0]) (rest := []) ⟨hx, hb, hml, hown, hts⟩ (k_X3_write l dC dI h0 h3 h1 x145 g1 fn149 5 0 ⟨by first | omega | decide, by first | omega | decide⟩ H.size) (cwV 2 hts g_X3_readTerm_1_4 rfl rfl rfl (by decide +kernel) ⟨Nat.le_of_ble_eq_true rfl, Nat.le_of_ble_eq_true rfl⟩) ⟨fun a U g mk q => by obtain ⟨q0, q1, qP, qK, qD⟩ := q; exact ⟨q0, q1, qP, va_K.moved (u := U) (U := U.calling g mk a) (Vm.Alike.refl U.vm) qK, qD⟩, va_recv hKc hPc (ci := 3) (q0 := 0) rfl rfl, fun U hU hW => ⟨rfl, by rw [hU], by rw [hU]; exact hPc, va_K.moved hW.alike hKc, hDc.weaken (fun _ _ _ _ => trivial)⟩⟩ rfl rfl hl.1 rfl (lv_room (Nat.le_of_ble_eq_true rfl)) dX3_readTerm_71 ⟨Nat.le_of_ble_eq_true rfl, Nat.le_of_ble_eq_true rfl⟩) hS (fun q _ h => hFc q h) hFc (fun u t H1 locs ht hvm hwra152 hB hz1 hk1 hS => ?_)
                obtain ⟨x153, fn154, oa_x153, ob_x153, hP1, hK1, hD1⟩ := hB
                rw [ht] at hP1
                obtain ⟨hP, hD⟩ := va_join (wr := (wd_82cdd16b h1 h2 v1 x146 x147 x148 h2 g0 f5)) (w1 := (wd_b958b9da h0 h1 h3 x153 h3 g1 fn154)) hP hD [0, 3] [1, 2] rfl rfl (by decide) (by decide) hk1 hFc hP1 hD1
                generalize H1 = H at hP hS ⊢
                have hP := hP.sub (ws' := (wd_1ad0248d h0 h1 h3 x153 h1 h2 v1 x146 x147 x148 h2 g0 f5 h3 g1 fn154)) [2, 0, 1, 3] rfl
                have hD := hD.sub (ws' := (wd_1ad0248d h0 h1 h3 x153 h1 h2 v1 x146 x147 x148 h2 g0 f5 h3 g1 fn154)) [2, 0, 1, 3] (by decide) rfl
                have hP : va_P (dC, dI) vwCl (wd_1ad0248d h0 h1 h3 x153 h1 h2 v1 x146 x147 x148 h2 g0 f5 h3 g1 fn154) H := hP
                have hD : va_D A (wd_1ad0248d h0 h1 h3 x153 h1 h2 v1 x146 x147 x148 h2 g0 f5 h3 g1 fn154) := hD
                obtain ⟨t155, et155⟩ : ∃ y : Int32, y = x110 + 1 := ⟨_, rfl⟩
                have gt155 : t155.toInt = x110.toInt + (1) := pv_add (a := x110.toInt) (b := (1)) et155 rfl (by decide) (by omega) (by omega)
                refine lv_iinc (v := t155) (lv' := [(2, .int t155), (3, .int ra124), (0, .ref h0), (1, .int 5)]) hx hb dX3_readTerm_74 hl (k := 1) rfl (by rw [et155]; rfl) (by decide) rfl (fun ls hl => ?_)
                refine lv_goto (tgt := 12) hx hb dX3_readTerm_77 (by decide) ?_
                exact ih_hL122 t155 x153 x146 x147 x148 fn154 H locs ls (by first | omega | decide) (by first | omega | decide) (by first | omega | decide) (by first | omega | decide) (by first | omega | (simp only [Int.toNat] at *; omega)) hP hD hS (lv_sub hl [0, 2, 3] rfl)
              · skip
                have fc150 : ra144.toInt = 0 := congrArg Int32.toInt c150
                refine lv_iconst (v := 0) hx hb dX3_readTerm_56 (by decide) ?_
                subst hQ
                have hP9 := hP.sub (ws' := (wd_1ad0248d h0 h1 h3 x145 h1 h2 v1 x146 x147 x148 h2 g0 f5 h3 g1 fn149)) [0, 1, 2, 3] rfl
                have hD9 := hD.sub (ws' := (wd_1ad0248d h0 h1 h3 x145 h1 h2 v1 x146 x147 x148 h2 g0 f5 h3 g1 fn149)) [0, 1, 2, 3] (by decide) rfl
                have hK9 := hK.sub (tys' := []) [] rfl
                exact W.zret (v := 0) hx hb hr rfl (fun t ht hW => ⟨⟨0, (), rfl, ⟨by first | omega | decide, by first | omega | decide⟩, x145, x146, x147, x148, fn149, by first | omega | decide, by first | omega | decide, by rw [ht]; exact hP9, va_K.moved hW.alike hK9, hD9⟩, hS.F ht⟩) hS.2.2 dX3_readTerm_57
            · skip
              have fc141 : ¬ (ra124.toInt = 47) := fun h9 => c141 (Int32.toInt_inj.mp h9)
              refine lv_iconst (v := 1) hx hb dX3_readTerm_39 (by decide) ?_
              subst hQ
              have hP9 := hP.sub (ws' := (wd_1ad0248d h0 h1 h3 x111 h1 h2 v1 x125 x113 x114 h2 g0 f5 h3 g1 fn115)) [0, 1, 2, 3] rfl
              have hD9 := hD.sub (ws' := (wd_1ad0248d h0 h1 h3 x111 h1 h2 v1 x125 x113 x114 h2 g0 f5 h3 g1 fn115)) [0, 1, 2, 3] (by decide) rfl
              have hK9 := hK.sub (tys' := []) [] rfl
              exact W.zret (v := 1) hx hb hr rfl (fun t ht hW => ⟨⟨1, (), rfl, ⟨by first | omega | decide, by first | omega | decide⟩, x111, x125, x113, x114, fn115, by first | omega | decide, by first | omega | decide, by rw [ht]; exact hP9, va_K.moved hW.alike hK9, hD9⟩, hS.F ht⟩) hS.2.2 dX3_readTerm_40
    exact hL122 _ 0 x2 x3 x4 x5 fn6 H locs ls (by first | omega | decide) (by first | omega | decide) (by first | omega | decide) (by first | omega | decide) (Nat.lt_succ_self _) hP hD hS (lv_sub hl [0, 1, 2] rfl)
  · skip
    have fc7 : ra1.toInt = 0 := congrArg Int32.toInt c7
    refine lv_iconst (v := 0) hx hb dX3_readTerm_8 (by decide) ?_
    subst hQ
    have hP9 := hP.sub (ws' := (wd_1ad0248d h0 h1 h3 x2 h1 h2 v1 x3 x4 x5 h2 g0 f5 h3 g1 fn6)) [0, 1, 2, 3] rfl
    have hD9 := hD.sub (ws' := (wd_1ad0248d h0 h1 h3 x2 h1 h2 v1 x3 x4 x5 h2 g0 f5 h3 g1 fn6)) [0, 1, 2, 3] (by decide) rfl
    have hK9 := hK.sub (tys' := []) [] rfl
    exact W.zret (v := 0) hx hb hr rfl (fun t ht hW => ⟨⟨0, (), rfl, ⟨by first | omega | decide, by first | omega | decide⟩, x2, x3, x4, x5, fn6, by first | omega | decide, by first | omega | decide, by rw [ht]; exact hP9, va_K.moved hW.alike hK9, hD9⟩, hS.F ht⟩) hS.2.2 dX3_readTerm_9
def q_X3_readSum_1 : List Cond := .code yX3_readSum cX3_readSum 4 (some .boolean) :: (([.code yX3_readTerm cX3_readTerm 4 (some .boolean), .code yX3_readAtom cX3_readAtom 4 (some .boolean), .fieldLink RX3 19 "LeftArguments$LawReader" "tape" "LLeftArguments$Tape;", .code yX10_next cX10_next 1 (some .int), .fieldLink RX10 19 "LeftArguments$Tape" "at" "I", .fieldLink RX10 15 "LeftArguments$Tape" "used" "I", .fieldLink RX10 9 "LeftArguments$Tape" "bytes" "[I", .initialized RX10, .instanceMethod yX10_next, .selects RX10 yX10_next yX10_next, .methodLink RX3 48 yX10_next, .code yX10_isDigit cX10_isDigit 1 (some .boolean), .static yX10_isDigit, .methodLink RX3 92 yX10_isDigit, .code yX10_step cX10_step 1 none, .instanceMethod yX10_step, .selects RX10 yX10_step yX10_step, .methodLink RX3 77 yX10_step, .code yX3_write cX3_write 3 none, .fieldLink RX3 15 "LeftArguments$LawReader" "used" "I", .fieldLink RX3 11 "LeftArguments$LawReader" "code" "[I", .initialized RX3, .instanceMethod yX3_write, .selects RX3 yX3_write yX3_write, .methodLink RX3 66 yX3_write, .code yX10_wrongHere cX10_wrongHere 1 (some .boolean), .fieldLink RX10 22 "LeftArguments$Tape" "wrongAt" "I", .instanceMethod yX10_wrongHere, .selects RX10 yX10_wrongHere yX10_wrongHere, .methodLink RX3 83 yX10_wrongHere, .code yJ0_indexOf_0f7a4 cJ0_indexOf_0f7a4 2 (some .int), .code yJ0_indexOf_7cf53 cJ0_indexOf_7cf53 3 (some .int), .code yJ0_isLatin1_aae02 cJ0_isLatin1_aae02 1 (some .boolean), .fieldLink RJ0 38 "java/lang/String" "COMPACT_STRINGS" "Z", .fieldLink RJ0 15 "java/lang/String" "coder" "B", .initialized RJ0, .instanceMethod yJ0_isLatin1_aae02, .selects RJ0 yJ0_isLatin1_aae02 yJ0_isLatin1_aae02, .methodLink RJ0 492 yJ0_isLatin1_aae02, .fieldLink RJ0 9 "java/lang/String" "value" "[B", .code yJ0_length_8abf5 cJ0_length_8abf5 1 (some .int), .code yJ0_coder_7d493 cJ0_coder_7d493 1 (some .byte), .instanceMethod yJ0_coder_7d493, .selects RJ0 yJ0_coder_7d493 yJ0_coder_7d493, .methodLink RJ0 335 yJ0_coder_7d493, .instanceMethod yJ0_length_8abf5, .selects RJ0 yJ0_length_8abf5 yJ0_length_8abf5, .methodLink RJ0 505 yJ0_length_8abf5, .code yJ1_indexOf_4cfef cJ1_indexOf_4cfef 4 (some .int), .code yJ1_canEncode_9a6ad cJ1_canEncode_9a6ad 1 (some .boolean), .initialized RJ1, .static yJ1_canEncode_9a6ad, .methodLink RJ1 88 yJ1_canEncode_9a6ad, .methodLink RJ1 92 Lib.Math.max.name, .static Lib.Math.max.name, .initialized "java/lang/Math", .code Lib.Math.max.name Lib.Math.max.code 2 (some .int), .methodLink RJ1 38 Lib.Math.min.name, .static Lib.Math.min.name, .code Lib.Math.min.name Lib.Math.min.code 2 (some .int), .code yJ1_indexOfChar_4cfef cJ1_indexOfChar_4cfef 6 (some .int), .static yJ1_indexOfChar_4cfef, .methodLink RJ1 95 yJ1_indexOfChar_4cfef, .static yJ1_indexOf_4cfef, .methodLink RJ0 637 yJ1_indexOf_4cfef, .instanceMethod yJ0_indexOf_7cf53, .selects RJ0 yJ0_indexOf_7cf53 yJ0_indexOf_7cf53, .methodLink RJ0 633 yJ0_indexOf_7cf53, .instanceMethod yJ0_indexOf_0f7a4, .selects RJ0 yJ0_indexOf_0f7a4 yJ0_indexOf_0f7a4, .methodLink RX3 103 yJ0_indexOf_0f7a4, .code yX10_takeNumber cX10_takeNumber 3 (some .boolean), .methodLink RX10 37 yX10_next, .methodLink RX10 45 yX10_isDigit, .fieldLink RX10 25 "LeftArguments$Tape" "number" "I", .code yX10_sign cX10_sign 1 (some .int), .instanceMethod yX10_sign, .selects RX10 yX10_sign yX10_sign, .methodLink RX10 49 yX10_sign, .methodLink RX10 41 yX10_wrongHere, .instanceMethod yX10_takeNumber, .selects RX10 yX10_takeNumber yX10_takeNumber, .methodLink RX3 95 yX10_takeNumber, .code yX10_number cX10_number 1 (some .int), .instanceMethod yX10_number, .selects RX10 yX10_number yX10_number, .methodLink RX3 98 yX10_number, .code yX3_readSum cX3_readSum 4 (some .boolean), .instanceMethod yX3_readAtom, .selects RX3 yX3_readAtom yX3_readAtom, .methodLink RX3 89 yX3_readAtom, .instanceMethod yX3_readTerm, .selects RX3 yX3_readTerm yX3_readTerm, .methodLink RX3 86 yX3_readTerm, .instanceMethod yX3_readSum, .selects RX3 yX3_readSum yX3_readSum, .methodLink RX3 59 yX3_readSum, .code yX10_take cX10_take 2 (some .boolean), .instanceMethod yX10_take, .selects RX10 yX10_take yX10_take, .methodLink RX3 51 yX10_take] : List Cond) ++ wsX30 ++ wsX100)
set_option maxRecDepth 20000 in
theorem g_X3_readSum_1_0 : GoodIn q_X3_readSum_1 (wsV RX3 86 RX3 yX3_readTerm q_X3_readTerm_1) := goodIn_app (goodIn_r _ [94, 92, 93, 22] rfl (by decide +kernel)) (goodIn_ca (goodIn_ca (goodIn_r (.code yX3_readTerm cX3_readTerm 4 (some .boolean) :: [.code yX3_readAtom cX3_readAtom 4 (some .boolean), .fieldLink RX3 19 "LeftArguments$LawReader" "tape" "LLeftArguments$Tape;", .code yX10_next cX10_next 1 (some .int), .fieldLink RX10 19 "LeftArguments$Tape" "at" "I", .fieldLink RX10 15 "LeftArguments$Tape" "used" "I", .fieldLink RX10 9 "LeftArguments$Tape" "bytes" "[I", .initialized RX10, .instanceMethod yX10_next, .selects RX10 yX10_next yX10_next, .methodLink RX3 48 yX10_next, .code yX10_isDigit cX10_isDigit 1 (some .boolean), .static yX10_isDigit, .methodLink RX3 92 yX10_isDigit, .code yX10_step cX10_step 1 none, .instanceMethod yX10_step, .selects RX10 yX10_step yX10_step, .methodLink RX3 77 yX10_step, .code yX3_write cX3_write 3 none, .fieldLink RX3 15 "LeftArguments$LawReader" "used" "I", .fieldLink RX3 11 "LeftArguments$LawReader" "code" "[I", .initialized RX3, .instanceMethod yX3_write, .selects RX3 yX3_write yX3_write, .methodLink RX3 66 yX3_write, .code yX10_wrongHere cX10_wrongHere 1 (some .boolean), .fieldLink RX10 22 "LeftArguments$Tape" "wrongAt" "I", .instanceMethod yX10_wrongHere, .selects RX10 yX10_wrongHere yX10_wrongHere, .methodLink RX3 83 yX10_wrongHere, .code yJ0_indexOf_0f7a4 cJ0_indexOf_0f7a4 2 (some .int), .code yJ0_indexOf_7cf53 cJ0_indexOf_7cf53 3 (some .int), .code yJ0_isLatin1_aae02 cJ0_isLatin1_aae02 1 (some .boolean), .fieldLink RJ0 38 "java/lang/String" "COMPACT_STRINGS" "Z", .fieldLink RJ0 15 "java/lang/String" "coder" "B", .initialized RJ0, .instanceMethod yJ0_isLatin1_aae02, .selects RJ0 yJ0_isLatin1_aae02 yJ0_isLatin1_aae02, .methodLink RJ0 492 yJ0_isLatin1_aae02, .fieldLink RJ0 9 "java/lang/String" "value" "[B", .code yJ0_length_8abf5 cJ0_length_8abf5 1 (some .int), .code yJ0_coder_7d493 cJ0_coder_7d493 1 (some .byte), .instanceMethod yJ0_coder_7d493, .selects RJ0 yJ0_coder_7d493 yJ0_coder_7d493, .methodLink RJ0 335 yJ0_coder_7d493, .instanceMethod yJ0_length_8abf5, .selects RJ0 yJ0_length_8abf5 yJ0_length_8abf5, .methodLink RJ0 505 yJ0_length_8abf5, .code yJ1_indexOf_4cfef cJ1_indexOf_4cfef 4 (some .int), .code yJ1_canEncode_9a6ad cJ1_canEncode_9a6ad 1 (some .boolean), .initialized RJ1, .static yJ1_canEncode_9a6ad, .methodLink RJ1 88 yJ1_canEncode_9a6ad, .methodLink RJ1 92 Lib.Math.max.name, .static Lib.Math.max.name, .initialized "java/lang/Math", .code Lib.Math.max.name Lib.Math.max.code 2 (some .int), .methodLink RJ1 38 Lib.Math.min.name, .static Lib.Math.min.name, .code Lib.Math.min.name Lib.Math.min.code 2 (some .int), .code yJ1_indexOfChar_4cfef cJ1_indexOfChar_4cfef 6 (some .int), .static yJ1_indexOfChar_4cfef, .methodLink RJ1 95 yJ1_indexOfChar_4cfef, .static yJ1_indexOf_4cfef, .methodLink RJ0 637 yJ1_indexOf_4cfef, .instanceMethod yJ0_indexOf_7cf53, .selects RJ0 yJ0_indexOf_7cf53 yJ0_indexOf_7cf53, .methodLink RJ0 633 yJ0_indexOf_7cf53, .instanceMethod yJ0_indexOf_0f7a4, .selects RJ0 yJ0_indexOf_0f7a4 yJ0_indexOf_0f7a4, .methodLink RX3 103 yJ0_indexOf_0f7a4, .code yX10_takeNumber cX10_takeNumber 3 (some .boolean), .methodLink RX10 37 yX10_next, .methodLink RX10 45 yX10_isDigit, .fieldLink RX10 25 "LeftArguments$Tape" "number" "I", .code yX10_sign cX10_sign 1 (some .int), .instanceMethod yX10_sign, .selects RX10 yX10_sign yX10_sign, .methodLink RX10 49 yX10_sign, .methodLink RX10 41 yX10_wrongHere, .instanceMethod yX10_takeNumber, .selects RX10 yX10_takeNumber yX10_takeNumber, .methodLink RX3 95 yX10_takeNumber, .code yX10_number cX10_number 1 (some .int), .instanceMethod yX10_number, .selects RX10 yX10_number yX10_number, .methodLink RX3 98 yX10_number, .code yX3_readSum cX3_readSum 4 (some .boolean), .code yX3_readTerm cX3_readTerm 4 (some .boolean), .instanceMethod yX3_readAtom, .selects RX3 yX3_readAtom yX3_readAtom, .methodLink RX3 89 yX3_readAtom, .instanceMethod yX3_readTerm, .selects RX3 yX3_readTerm yX3_readTerm, .methodLink RX3 86 yX3_readTerm, .instanceMethod yX3_readSum, .selects RX3 yX3_readSum yX3_readSum, .methodLink RX3 59 yX3_readSum, .code yX10_take cX10_take 2 (some .boolean), .instanceMethod yX10_take, .selects RX10 yX10_take yX10_take, .methodLink RX3 51 yX10_take]) [1, 2, 3, 4, 5, 6, 7, 8, 9, 10, 11, 12, 13, 14, 15, 16, 17, 18, 19, 20, 21, 22, 23, 24, 25, 26, 27, 28, 29, 30, 31, 32, 33, 34, 35, 36, 37, 38, 39, 40, 41, 42, 43, 44, 45, 46, 47, 48, 49, 50, 51, 52, 53, 54, 55, 56, 57, 58, 59, 60, 61, 62, 63, 64, 65, 66, 67, 68, 69, 70, 71, 72, 73, 74, 75, 76, 77, 78, 79, 80, 81, 82, 83, 84, 85, 86, 87, 88, 1, 89, 90, 91, 92, 93, 94, 95, 96, 97, 98, 99, 100, 101] rfl (by decide +kernel)) (goodIn_sub (fun _ h => List.mem_cons_of_mem _ (List.mem_append_left _ (List.mem_append_right _ h))) gwX3)) (goodIn_sub (fun _ h => List.mem_cons_of_mem _ (List.mem_append_right _ h)) gwX10))
set_option maxRecDepth 20000 in
theorem g_X3_readSum_1_1 : GoodIn q_X3_readSum_1 (wsV RX3 48 RX10 yX10_next q_X10_next) := goodIn_app (goodIn_r _ [11, 9, 10, 8] rfl (by decide +kernel)) (goodIn_ca (goodIn_r (.code yX10_next cX10_next 1 (some .int) :: [.fieldLink RX10 19 "LeftArguments$Tape" "at" "I", .fieldLink RX10 15 "LeftArguments$Tape" "used" "I", .fieldLink RX10 9 "LeftArguments$Tape" "bytes" "[I"]) [4, 5, 6, 7] rfl (by decide +kernel)) (goodIn_sub (fun _ h => List.mem_cons_of_mem _ (List.mem_append_right _ h)) gwX10))
set_option maxRecDepth 20000 in
theorem g_X3_readSum_1_2 : GoodIn q_X3_readSum_1 (wsV RX3 77 RX10 yX10_step q_X10_step) := goodIn_app (goodIn_r _ [18, 16, 17, 8] rfl (by decide +kernel)) (goodIn_ca (goodIn_r (.code yX10_step cX10_step 1 none :: [.fieldLink RX10 19 "LeftArguments$Tape" "at" "I"]) [15, 5] rfl (by decide +kernel)) (goodIn_sub (fun _ h => List.mem_cons_of_mem _ (List.mem_append_right _ h)) gwX10))
set_option maxRecDepth 20000 in
theorem g_X3_readSum_1_4 : GoodIn q_X3_readSum_1 (wsV RX3 66 RX3 yX3_write q_X3_write) := goodIn_app (goodIn_r _ [25, 23, 24, 22] rfl (by decide +kernel)) (goodIn_ca (goodIn_r (.code yX3_write cX3_write 3 none :: [.fieldLink RX3 15 "LeftArguments$LawReader" "used" "I", .fieldLink RX3 11 "LeftArguments$LawReader" "code" "[I"]) [19, 20, 21] rfl (by decide +kernel)) (goodIn_sub (fun _ h => List.mem_cons_of_mem _ (List.mem_append_left _ (List.mem_append_right _ h))) gwX3))
set_option maxHeartbeats 4000000 in
set_option maxRecDepth 100000 in
theorem k_X3_readSum_1 (l : Launch) (dC : Nat → ClassId) (dI : Nat → Nat → Nat) (adK : Nat → Nat) (adV : Nat → Nat) (h0 : Nat) (h1 : Nat) (h2 : Nat) (h3 : Nat) (v0 : Int32) (v1 : Int32) (v2 : Int32) (v3 : Int32) (v4 : Int32) (g0 : ClassId) (f5 : Nat → Int32) (g1 : ClassId) (f6 : Nat → Int32) (i_v0 : 0 ≤ v0.toInt ∧ v0.toInt ≤ 256) (i_v1 : 0 ≤ v1.toInt ∧ v1.toInt ≤ 240) (sz : Nat) : Met l yX3_readSum q_X3_readSum_1 ({ frames := 9, cells := 0, slots := 0, locals := 206 }) (va_Pc [.ref h0, .int 5] (fun U => U.heap.size = sz ∧ va_P (dC, dI) vwCl (wd_1ad0248d h0 h1 h3 v0 h1 h2 v1 v2 v3 v4 h2 g0 f5 h3 g1 f6) U.heap ∧ va_K (dC, dI) vwCl [(g0, .int), (g1, .int)] U ∧ va_D (fun _ => True) (wd_1ad0248d h0 h1 h3 v0 h1 h2 v1 v2 v3 v4 h2 g0 f5 h3 g1 f6) ∧ vk_R RX3 101 "zaondt" (adK 2) U ∧ va_Z "java/lang/String" "COMPACT_STRINGS" "Z" (.int 1) (va_A (wd_1ad0248d h0 h1 h3 v0 h1 h2 v1 v2 v3 v4 h2 g0 f5 h3 g1 f6) sz) U U.heap ∧ vk_S 3 pv_len3 pv_byt3 adK adV (va_A (wd_1ad0248d h0 h1 h3 v0 h1 h2 v1 v2 v3 v4 h2 g0 f5 h3 g1 f6) sz) U U.heap)) (va_Qi (fun (r : Int32) (_ : Unit) => 0 ≤ r.toInt ∧ r.toInt ≤ 1) (fun (_ : Unit) (t : State) => ∃ (o_h0_2 : Int32) (o_h1_2 : Int32) (o_h1_3 : Int32) (o_h1_4 : Int32) (o_h3 : Nat → Int32), 0 ≤ o_h0_2.toInt ∧ o_h0_2.toInt ≤ 256 ∧ va_P (dC, dI) vwCl (wd_1ad0248d h0 h1 h3 o_h0_2 h1 h2 v1 o_h1_2 o_h1_3 o_h1_4 h2 g0 f5 h3 g1 o_h3) t.heap ∧ va_K (dC, dI) vwCl [] t ∧ va_D (va_A (wd_1ad0248d h0 h1 h3 v0 h1 h2 v1 v2 v3 v4 h2 g0 f5 h3 g1 f6) sz) (wd_1ad0248d h0 h1 h3 o_h0_2 h1 h2 v1 o_h1_2 o_h1_3 o_h1_4 h2 g0 f5 h3 g1 o_h3)) (va_A (wd_1ad0248d h0 h1 h3 v0 h1 h2 v1 v2 v3 v4 h2 g0 f5 h3 g1 f6) sz)) 0 0 (va_A (wd_1ad0248d h0 h1 h3 v0 h1 h2 v1 v2 v3 v4 h2 g0 f5 h3 g1 f6) sz) := by
  refine Met.ofW (cc := cX3_readSum) (maxL := 4) (ret := (some .boolean)) (by decide) rfl ?_
  intro p e s m args below meth c s₁ B hml hv
  obtain ⟨i_v0a, i_v0b⟩ := i_v0
  obtain ⟨i_v1a, i_v1b⟩ := i_v1
  obtain ⟨rfl, hsz, hP, hK, hD0, h_vr_2, h_st_CS, h_st_S⟩ := hv
  have hx := B.exec
  have hb := B.bytes
  have hr := B.returns
  have hts := atoms_spec (ws := q_X3_readSum_1) B.pre
  have hown : s.vm.findClass RX3 = some m.cls := findClass_of_methodNamed B.named
  have hlocks := B.notSynchronized
  subst hsz
  have hD := hD0.self (sz := s.heap.size)
  generalize hAe : va_A (wd_1ad0248d h0 h1 h3 v0 h1 h2 v1 v2 v3 v4 h2 g0 f5 h3 g1 f6) s.heap.size = A at hD h_st_CS h_st_S ⊢
  have hA : ∀ q : Nat, s.heap.size ≤ q → A q := fun q h => by rw [← hAe]; exact Or.inr h
  have hS : va_S A s.heap s.heap [] := va_S.rf
  generalize hQ : (MQ below _ _ s 0 0 A) = Q
  have hl := lv_entry ([.ref h0, .int 5]) (n := 4) (Nat.le_of_ble_eq_true rfl)
  rw [lg_entry_eq]
  generalize (lg_sl ([.ref h0, .int 5]) ++ List.replicate (4 - (lg_sl ([.ref h0, .int 5])).length) Slot.unset).toArray = ls at hl ⊢
  have hl : lv_has ls 4 [(0, .ref h0), (1, .int 5)] := hl
  obtain ⟨H, hH⟩ : ∃ H : Heap, H = s.heap := ⟨_, rfl⟩
  obtain ⟨locs, hlocs⟩ : ∃ y : List Loc, y = [] := ⟨_, rfl⟩
  have hS : va_S A s.heap H locs := by rw [hH, hlocs]; exact va_S.rf
  have hP : va_P (dC, dI) vwCl (wd_1ad0248d h0 h1 h3 v0 h1 h2 v1 v2 v3 v4 h2 g0 f5 h3 g1 f6) H := by rw [hH]; exact hP
  rw [← hH, ← hlocs]
  refine lv_aload_n hx hb dX3_readSum_0 rfl (lv_at hl 0 rfl) ?_
  refine lv_iload_n hx hb dX3_readSum_1 rfl (lv_at hl 1 rfl) ?_
  have hPc := hP.sub (ws' := (wd_1ad0248d h0 h1 h3 v0 h1 h2 v1 v2 v3 v4 h2 g0 f5 h3 g1 f6)) [0, 1, 2, 3] rfl
  have hDc := hD.sub (ws' := (wd_1ad0248d h0 h1 h3 v0 h1 h2 v1 v2 v3 v4 h2 g0 f5 h3 g1 f6)) [0, 1, 2, 3] (by decide) rfl
  have hKc := hK.sub (tys' := [(g0, .int), (g1, .int)]) [0, 1] rfl
  have hFc := va_free (wc := (wd_1ad0248d h0 h1 h3 v0 h1 h2 v1 v2 v3 v4 h2 g0 f5 h3 g1 f6)) hD hS hA [0, 1, 2, 3] rfl
  refine va_calli (va_runV (As := [.int 5]) (rest := []) ⟨hx, hb, hml, hown, hts⟩ (k_X3_readTerm_1 l dC dI adK adV h0 h1 h2 h3 v0 v1 v2 v3 v4 g0 f5 g1 f6 ⟨by first | omega | decide, by first | omega | decide⟩ ⟨by first | omega | decide, by first | omega | decide⟩ H.size) (cwV 1 hts g_X3_readSum_1_0 rfl rfl rfl (by decide +kernel) ⟨Nat.le_of_ble_eq_true rfl, Nat.le_of_ble_eq_true rfl⟩) ⟨fun a U g mk q => by obtain ⟨q0, q1, qP, qK, qD, n0, n1, n2⟩ := q; exact ⟨q0, q1, qP, va_K.moved (u := U) (U := U.calling g mk a) (Vm.Alike.refl U.vm) qK, qD, vk_R.same rfl n0, va_Z.moved (Vm.Alike.refl _) n1, vk_S.moved (Vm.Alike.refl _) n2⟩, va_recv hKc hPc (ci := 3) (q0 := 0) rfl rfl, fun U hU hW => ⟨rfl, by rw [hU], by rw [hU]; exact hPc, va_K.moved hW.alike hKc, hDc.weaken (fun _ _ _ _ => trivial), vk_R.warm hW h_vr_2, (by rw [hU]; exact (va_Z.moved hW.alike (va_Z.kept h_st_CS hS.2.1)).narrow hFc), (by rw [hU]; exact (vk_S.moved hW.alike (vk_S.kept h_st_S hS.2.1)).narrow hFc)⟩⟩ rfl rfl hl.1 rfl (lv_room (Nat.le_of_ble_eq_true rfl)) dX3_readSum_2 ⟨Nat.le_of_ble_eq_true rfl, Nat.le_of_ble_eq_true rfl⟩) hS (fun q _ h => hFc q h) hFc (fun ra1 u t H1 locs ht hvm hwra1 hB hz1 hk1 hS => ?_)
  obtain ⟨x2, x3, x4, x5, fn6, oa_x2, ob_x2, hP1, hK1, hD1⟩ := hB
  rw [ht] at hP1
  obtain ⟨hP, hD⟩ := va_join (wr := []) (w1 := (wd_1ad0248d h0 h1 h3 x2 h1 h2 v1 x3 x4 x5 h2 g0 f5 h3 g1 fn6)) hP hD [0, 1, 2, 3] [] rfl rfl (by decide) (by decide) hk1 hFc hP1 hD1
  generalize H1 = H at hP hS ⊢
  have hP : va_P (dC, dI) vwCl (wd_1ad0248d h0 h1 h3 x2 h1 h2 v1 x3 x4 x5 h2 g0 f5 h3 g1 fn6) H := hP
  have hD : va_D A (wd_1ad0248d h0 h1 h3 x2 h1 h2 v1 x3 x4 x5 h2 g0 f5 h3 g1 fn6) := hD
  obtain ⟨wa_ra1, wb_ra1⟩ := hwra1
  have wa_ra1 : 0 ≤ ra1.toInt := wa_ra1
  have wb_ra1 : ra1.toInt ≤ 1 := wb_ra1
  refine lv_if_ne (tgt := 10) hx hb dX3_readSum_5 (by decide) (fun c7 => ?_) (fun c7 => ?_)
  · skip
    have fc7 : ¬ (ra1.toInt = 0) := fun h9 => c7 (Int32.toInt_inj.mp h9)
    refine lv_iconst (v := 0) hx hb dX3_readSum_10 (by decide) ?_
    refine lv_istore_n (lv' := [(2, .int 0), (0, .ref h0), (1, .int 5)]) hx hb dX3_readSum_11 rfl hl (by decide) rfl (fun ls hl => ?_)
    have hL104 : ∀ (n9 : Nat), ∀ (x92 : Int32) (x93 : Int32) (x94 : Int32) (x95 : Int32) (x96 : Int32) (fn97 : Nat → Int32) (H : Heap) (locs : List Loc) (ls : Array Slot), 0 ≤ x92.toInt → x92.toInt ≤ 240 → 0 ≤ x93.toInt → x93.toInt ≤ 256 → (240 - x92.toInt).toNat < n9 → va_P (dC, dI) vwCl (wd_1ad0248d h0 h1 h3 x93 h1 h2 v1 x94 x95 x96 h2 g0 f5 h3 g1 fn97) H → va_D A (wd_1ad0248d h0 h1 h3 x93 h1 h2 v1 x94 x95 x96 h2 g0 f5 h3 g1 fn97) → va_S A s.heap H locs → lv_has ls 4 [(2, .int x92), (0, .ref h0), (1, .int 5)] → W p l e ({ frames := 9, cells := 0, slots := 0, locals := 206 }) s m ([.ref h0, .int 5] : List Value).toArray below meth c H locs 0 0 Q (F0 m 12 ls []) := by
      intro n9
      induction n9 with
      | zero => intro x92 x93 x94 x95 x96 fn97 H locs ls qa_x92 qb_x92 qa_x93 qb_x93 hm9 hP hD hS hl; exact absurd hm9 (Nat.not_lt_zero _)
      | succ n9 ih_hL104 =>
        intro x92 x93 x94 x95 x96 fn97 H locs ls qa_x92 qb_x92 qa_x93 qb_x93 hm9 hP hD hS hl
        refine lv_iload_n hx hb dX3_readSum_12 rfl (lv_at hl 0 rfl) ?_
        refine lv_sipush (v := 240) hx hb dX3_readSum_13 (by decide) ?_
        refine lv_icmp_ge (tgt := 80) hx hb dX3_readSum_16 (by decide) (fun c105 => ?_) (fun c105 => ?_)
        · skip
          have fc105 : 240 ≤ x92.toInt := Int32.le_iff_toInt_le.mp c105
          refine lv_iconst (v := 1) hx hb dX3_readSum_80 (by decide) ?_
          subst hQ
          have hP9 := hP.sub (ws' := (wd_1ad0248d h0 h1 h3 x93 h1 h2 v1 x94 x95 x96 h2 g0 f5 h3 g1 fn97)) [0, 1, 2, 3] rfl
          have hD9 := hD.sub (ws' := (wd_1ad0248d h0 h1 h3 x93 h1 h2 v1 x94 x95 x96 h2 g0 f5 h3 g1 fn97)) [0, 1, 2, 3] (by decide) rfl
          have hK9 := hK.sub (tys' := []) [] rfl
          exact W.zret (v := 1) hx hb hr rfl (fun t ht hW => ⟨⟨1, (), rfl, ⟨by first | omega | decide, by first | omega | decide⟩, x93, x94, x95, x96, fn97, by first | omega | decide, by first | omega | decide, by rw [ht]; exact hP9, va_K.moved hW.alike hK9, hD9⟩, hS.F ht⟩) hS.2.2 dX3_readSum_81
        · skip
          have fc105 : ¬ (240 ≤ x92.toInt) := fun h9 => c105 (Int32.le_iff_toInt_le.mpr h9)
          refine lv_aload_n hx hb dX3_readSum_19 rfl (lv_at hl 1 rfl) ?_
          refine va_get (D := (dC, dI)) (ci := 3) (v := .ref h1) (C := RX3) (T := TX3) (N := 3) hx hb hts (fun _ h => List.mem_cons_of_mem _ (List.mem_append_left _ (List.mem_append_right _ h))) hown hK hP 0 rfl rfl 0 (by decide) (hts (.fieldLink RX3 19 "LeftArguments$LawReader" "tape" "LLeftArguments$Tape;") (List.mem_cons_of_mem _ (List.mem_append_left _ (List.mem_append_left _ (List.mem_of_getElem? (i := 2) rfl))))) (fun _ h9 => h9) rfl dX3_readSum_20 ?_
          have hPc := hP.sub (ws' := (wd_82cdd16b h1 h2 v1 x94 x95 x96 h2 g0 f5)) [1, 2] rfl
          have hDc := hD.sub (ws' := (wd_82cdd16b h1 h2 v1 x94 x95 x96 h2 g0 f5)) [1, 2] (by decide) rfl
          have hKc := hK.sub (tys' := [(g0, .int)]) [0] rfl
          have hFc := va_free (wc := (wd_82cdd16b h1 h2 v1 x94 x95 x96 h2 g0 f5)) hD hS hA [1, 2] rfl
          refine va_calli (va_runV (As := []) (rest := []) ⟨hx, hb, hml, hown, hts⟩ (k_X10_next l dC dI h1 h2 v1 x94 x95 x96 g0 f5 ⟨by first | omega | decide, by first | omega | decide⟩ H.size) (cwV 0 hts g_X3_readSum_1_1 rfl rfl rfl (by decide +kernel) ⟨Nat.le_of_ble_eq_true rfl, Nat.le_of_ble_eq_true rfl⟩) ⟨fun a U g mk q => by obtain ⟨q0, q1, qP, qK, qD⟩ := q; exact ⟨q0, q1, qP, va_K.moved (u := U) (U := U.calling g mk a) (Vm.Alike.refl U.vm) qK, qD⟩, va_recv hKc hPc (ci := 10) (q0 := 0) rfl rfl, fun U hU hW => ⟨rfl, by rw [hU], by rw [hU]; exact hPc, va_K.moved hW.alike hKc, hDc.weaken (fun _ _ _ _ => trivial)⟩⟩ rfl rfl hl.1 rfl (lv_room (Nat.le_of_ble_eq_true rfl)) dX3_readSum_23 ⟨Nat.le_of_ble_eq_true rfl, Nat.le_of_ble_eq_true rfl⟩) hS (fun q _ h => hFc q h) hFc (fun ra106 u t H1 locs ht hvm hwra106 hB hz1 hk1 hS => ?_)
          obtain ⟨x107, hP1, hK1, hD1⟩ := hB
          rw [ht] at hP1
          obtain ⟨hP, hD⟩ := va_join (wr := (wd_b958b9da h0 h1 h3 x93 h3 g1 fn97)) (w1 := (wd_82cdd16b h1 h2 v1 x107 x95 x96 h2 g0 f5)) hP hD [1, 2] [0, 3] rfl rfl (by decide) (by decide) hk1 hFc hP1 hD1
          generalize H1 = H at hP hS ⊢
          have hP := hP.sub (ws' := (wd_1ad0248d h0 h1 h3 x93 h1 h2 v1 x107 x95 x96 h2 g0 f5 h3 g1 fn97)) [0, 2, 3, 1] rfl
          have hD := hD.sub (ws' := (wd_1ad0248d h0 h1 h3 x93 h1 h2 v1 x107 x95 x96 h2 g0 f5 h3 g1 fn97)) [0, 2, 3, 1] (by decide) rfl
          have hP : va_P (dC, dI) vwCl (wd_1ad0248d h0 h1 h3 x93 h1 h2 v1 x107 x95 x96 h2 g0 f5 h3 g1 fn97) H := hP
          have hD : va_D A (wd_1ad0248d h0 h1 h3 x93 h1 h2 v1 x107 x95 x96 h2 g0 f5 h3 g1 fn97) := hD
          refine lv_istore_n (lv' := [(3, .int ra106), (2, .int x92), (0, .ref h0), (1, .int 5)]) hx hb dX3_readSum_26 rfl hl (by decide) rfl (fun ls hl => ?_)
          refine lv_iload_n hx hb dX3_readSum_27 rfl (lv_at hl 0 rfl) ?_
          refine lv_bipush (v := 43) hx hb dX3_readSum_28 (by decide) ?_
          refine lv_icmp_eq (tgt := 41) hx hb dX3_readSum_30 (by decide) (fun c108 => ?_) (fun c108 => ?_)
          · skip
            have fc108 : ra106.toInt = 43 := congrArg Int32.toInt c108
            refine lv_aload_n hx hb dX3_readSum_41 rfl (lv_at hl 2 rfl) ?_
            refine va_get (D := (dC, dI)) (ci := 3) (v := .ref h1) (C := RX3) (T := TX3) (N := 3) hx hb hts (fun _ h => List.mem_cons_of_mem _ (List.mem_append_left _ (List.mem_append_right _ h))) hown hK hP 0 rfl rfl 0 (by decide) (hts (.fieldLink RX3 19 "LeftArguments$LawReader" "tape" "LLeftArguments$Tape;") (List.mem_cons_of_mem _ (List.mem_append_left _ (List.mem_append_left _ (List.mem_of_getElem? (i := 2) rfl))))) (fun _ h9 => h9) rfl dX3_readSum_42 ?_
            have hPc := hP.sub (ws' := (wd_09b0abee h1 h2 v1 x107 x95 x96)) [1] rfl
            have hDc := hD.sub (ws' := (wd_09b0abee h1 h2 v1 x107 x95 x96)) [1] (by decide) rfl
            have hKc := hK.sub (tys' := []) [] rfl
            have hFc := va_free (wc := (wd_09b0abee h1 h2 v1 x107 x95 x96)) hD hS hA [1] rfl
            refine va_callv (va_runV (As := []) (rest := []) ⟨hx, hb, hml, hown, hts⟩ (k_X10_step l dC dI h1 h2 v1 x107 x95 x96 ⟨by first | omega | decide, by first | omega | decide⟩ H.size) (cwV 0 hts g_X3_readSum_1_2 rfl rfl rfl (by decide +kernel) ⟨Nat.le_of_ble_eq_true rfl, Nat.le_of_ble_eq_true rfl⟩) ⟨fun a U g mk q => by obtain ⟨q0, q1, qP, qK, qD⟩ := q; exact ⟨q0, q1, qP, va_K.moved (u := U) (U := U.calling g mk a) (Vm.Alike.refl U.vm) qK, qD⟩, va_recv hKc hPc (ci := 10) (q0 := 0) rfl rfl, fun U hU hW => ⟨rfl, by rw [hU], by rw [hU]; exact hPc, va_K.moved hW.alike hKc, hDc.weaken (fun _ _ _ _ => trivial)⟩⟩ rfl rfl hl.1 rfl (lv_room (Nat.le_of_ble_eq_true rfl)) dX3_readSum_45 ⟨Nat.le_of_ble_eq_true rfl, Nat.le_of_ble_eq_true rfl⟩) hS (fun q _ h => hFc q h) hFc (fun u t H1 locs ht hvm hwra109 hB hz1 hk1 hS => ?_)
            obtain ⟨x110, hP1, hK1, hD1⟩ := hB
            rw [ht] at hP1
            obtain ⟨hP, hD⟩ := va_join (wr := (wd_6b0d8e05 h0 h1 h3 x93 h2 g0 f5 h3 g1 fn97)) (w1 := (wd_09b0abee h1 h2 v1 x110 x95 x96)) hP hD [1] [0, 2, 3] rfl rfl (by decide) (by decide) hk1 hFc hP1 hD1
            generalize H1 = H at hP hS ⊢
            have hP := hP.sub (ws' := (wd_1ad0248d h0 h1 h3 x93 h1 h2 v1 x110 x95 x96 h2 g0 f5 h3 g1 fn97)) [0, 3, 1, 2] rfl
            have hD := hD.sub (ws' := (wd_1ad0248d h0 h1 h3 x93 h1 h2 v1 x110 x95 x96 h2 g0 f5 h3 g1 fn97)) [0, 3, 1, 2] (by decide) rfl
            have hP : va_P (dC, dI) vwCl (wd_1ad0248d h0 h1 h3 x93 h1 h2 v1 x110 x95 x96 h2 g0 f5 h3 g1 fn97) H := hP
            have hD : va_D A (wd_1ad0248d h0 h1 h3 x93 h1 h2 v1 x110 x95 x96 h2 g0 f5 h3 g1 fn97) := hD
            refine lv_aload_n hx hb dX3_readSum_48 rfl (lv_at hl 2 rfl) ?_
            refine lv_iload_n hx hb dX3_readSum_49 rfl (lv_at hl 3 rfl) ?_
            have hPc := hP.sub (ws' := (wd_1ad0248d h0 h1 h3 x93 h1 h2 v1 x110 x95 x96 h2 g0 f5 h3 g1 fn97)) [0, 1, 2, 3] rfl
            have hDc := hD.sub (ws' := (wd_1ad0248d h0 h1 h3 x93 h1 h2 v1 x110 x95 x96 h2 g0 f5 h3 g1 fn97)) [0, 1, 2, 3] (by decide) rfl
            have hKc := hK.sub (tys' := [(g0, .int), (g1, .int)]) [0, 1] rfl
            have hFc := va_free (wc := (wd_1ad0248d h0 h1 h3 x93 h1 h2 v1 x110 x95 x96 h2 g0 f5 h3 g1 fn97)) hD hS hA [0, 1, 2, 3] rfl
            refine va_calli (va_runV (As := [.int 5]) (rest := []) ⟨hx, hb, hml, hown, hts⟩ (k_X3_readTerm_1 l dC dI adK adV h0 h1 h2 h3 x93 v1 x110 x95 x96 g0 f5 g1 fn97 ⟨by first | omega | decide, by first | omega | decide⟩ ⟨by first | omega | decide, by first | omega | decide⟩ H.size) (cwV 1 hts g_X3_readSum_1_0 rfl rfl rfl (by decide +kernel) ⟨Nat.le_of_ble_eq_true rfl, Nat.le_of_ble_eq_true rfl⟩) ⟨fun a U g mk q => by obtain ⟨q0, q1, qP, qK, qD, n0, n1, n2⟩ := q; exact ⟨q0, q1, qP, va_K.moved (u := U) (U := U.calling g mk a) (Vm.Alike.refl U.vm) qK, qD, vk_R.same rfl n0, va_Z.moved (Vm.Alike.refl _) n1, vk_S.moved (Vm.Alike.refl _) n2⟩, va_recv hKc hPc (ci := 3) (q0 := 0) rfl rfl, fun U hU hW => ⟨rfl, by rw [hU], by rw [hU]; exact hPc, va_K.moved hW.alike hKc, hDc.weaken (fun _ _ _ _ => trivial), vk_R.warm hW h_vr_2, (by rw [hU]; exact (va_Z.moved hW.alike (va_Z.kept h_st_CS hS.2.1)).narrow hFc), (by rw [hU]; exact (vk_S.moved hW.alike (vk_S.kept h_st_S hS.2.1)).narrow hFc)⟩⟩ rfl rfl hl.1 rfl (lv_room (Nat.le_of_ble_eq_true rfl)) dX3_readSum_50 ⟨Nat.le_of_ble_eq_true rfl, Nat.le_of_ble_eq_true rfl⟩) hS (fun q _ h => hFc q h) hFc (fun ra111 u t H1 locs ht hvm hwra111 hB hz1 hk1 hS => ?_)
            obtain ⟨x112, x113, x114, x115, fn116, oa_x112, ob_x112, hP1, hK1, hD1⟩ := hB
            rw [ht] at hP1
            obtain ⟨hP, hD⟩ := va_join (wr := []) (w1 := (wd_1ad0248d h0 h1 h3 x112 h1 h2 v1 x113 x114 x115 h2 g0 f5 h3 g1 fn116)) hP hD [0, 1, 2, 3] [] rfl rfl (by decide) (by decide) hk1 hFc hP1 hD1
            generalize H1 = H at hP hS ⊢
            have hP : va_P (dC, dI) vwCl (wd_1ad0248d h0 h1 h3 x112 h1 h2 v1 x113 x114 x115 h2 g0 f5 h3 g1 fn116) H := hP
            have hD : va_D A (wd_1ad0248d h0 h1 h3 x112 h1 h2 v1 x113 x114 x115 h2 g0 f5 h3 g1 fn116) := hD
            obtain ⟨wa_ra111, wb_ra111⟩ := hwra111
            have wa_ra111 : 0 ≤ ra111.toInt := wa_ra111
            have wb_ra111 : ra111.toInt ≤ 1 := wb_ra111
            refine lv_if_ne (tgt := 58) hx hb dX3_readSum_53 (by decide) (fun c117 => ?_) (fun c117 => ?_)
            · skip
              have fc117 : ¬ (ra111.toInt = 0) := fun h9 => c117 (Int32.toInt_inj.mp h9)
              refine lv_aload_n hx hb dX3_readSum_58 rfl (lv_at hl 2 rfl) ?_
              refine lv_iload_n hx hb dX3_readSum_59 rfl (lv_at hl 0 rfl) ?_
              refine lv_bipush (v := 43) hx hb dX3_readSum_60 (by decide) ?_
              refine lv_icmp_ne (tgt := 69) hx hb dX3_readSum_62 (by decide) (fun c118 => by exfalso; have fc118 : ¬ (ra106.toInt = 43) := fun h9 => c118 (Int32.toInt_inj.mp h9); omega) (fun _ => ?_)
              refine lv_iconst (v := 2) hx hb dX3_readSum_65 (by decide) ?_
              refine lv_goto (tgt := 70) hx hb dX3_readSum_66 (by decide) ?_
              refine lv_iconst (v := 0) hx hb dX3_readSum_70 (by decide) ?_
              have hPc := hP.sub (ws' := (wd_b958b9da h0 h1 h3 x112 h3 g1 fn116)) [0, 3] rfl
              have hDc := hD.sub (ws' := (wd_b958b9da h0 h1 h3 x112 h3 g1 fn116)) [0, 3] (by decide) rfl
              have hKc := hK.sub (tys' := [(g1, .int)]) [1] rfl
              have hFc := va_free (wc := (wd_b958b9da h0 h1 h3 x112 h3 g1 fn116)) hD hS hA [0, 3] rfl
              refine va_callv (va_runV (As := [.int 2, .int 0]) (rest := []) ⟨hx, hb, hml, hown, hts⟩ (k_X3_write l dC dI h0 h3 h1 x112 g1 fn116 2 0 ⟨by first | omega | decide, by first | omega | decide⟩ H.size) (cwV 2 hts g_X3_readSum_1_4 rfl rfl rfl (by decide +kernel) ⟨Nat.le_of_ble_eq_true rfl, Nat.le_of_ble_eq_true rfl⟩) ⟨fun a U g mk q => by obtain ⟨q0, q1, qP, qK, qD⟩ := q; exact ⟨q0, q1, qP, va_K.moved (u := U) (U := U.calling g mk a) (Vm.Alike.refl U.vm) qK, qD⟩, va_recv hKc hPc (ci := 3) (q0 := 0) rfl rfl, fun U hU hW => ⟨rfl, by rw [hU], by rw [hU]; exact hPc, va_K.moved hW.alike hKc, hDc.weaken (fun _ _ _ _ => trivial)⟩⟩ rfl rfl hl.1 rfl (lv_room (Nat.le_of_ble_eq_true rfl)) dX3_readSum_71 ⟨Nat.le_of_ble_eq_true rfl, Nat.le_of_ble_eq_true rfl⟩) hS (fun q _ h => hFc q h) hFc (fun u t H1 locs ht hvm hwra119 hB hz1 hk1 hS => ?_)
              obtain ⟨x120, fn121, oa_x120, ob_x120, hP1, hK1, hD1⟩ := hB
              rw [ht] at hP1
              obtain ⟨hP, hD⟩ := va_join (wr := (wd_82cdd16b h1 h2 v1 x113 x114 x115 h2 g0 f5)) (w1 := (wd_b958b9da h0 h1 h3 x120 h3 g1 fn121)) hP hD [0, 3] [1, 2] rfl rfl (by decide) (by decide) hk1 hFc hP1 hD1
              generalize H1 = H at hP hS ⊢
              have hP := hP.sub (ws' := (wd_1ad0248d h0 h1 h3 x120 h1 h2 v1 x113 x114 x115 h2 g0 f5 h3 g1 fn121)) [2, 0, 1, 3] rfl
              have hD := hD.sub (ws' := (wd_1ad0248d h0 h1 h3 x120 h1 h2 v1 x113 x114 x115 h2 g0 f5 h3 g1 fn121)) [2, 0, 1, 3] (by decide) rfl
              have hP : va_P (dC, dI) vwCl (wd_1ad0248d h0 h1 h3 x120 h1 h2 v1 x113 x114 x115 h2 g0 f5 h3 g1 fn121) H := hP
              have hD : va_D A (wd_1ad0248d h0 h1 h3 x120 h1 h2 v1 x113 x114 x115 h2 g0 f5 h3 g1 fn121) := hD
              obtain ⟨t122, et122⟩ : ∃ y : Int32, y = x92 + 1 := ⟨_, rfl⟩
              have gt122 : t122.toInt = x92.toInt + (1) := pv_add (a := x92.toInt) (b := (1)) et122 rfl (by decide) (by omega) (by omega)
              refine lv_iinc (v := t122) (lv' := [(2, .int t122), (3, .int ra106), (0, .ref h0), (1, .int 5)]) hx hb dX3_readSum_74 hl (k := 1) rfl (by rw [et122]; rfl) (by decide) rfl (fun ls hl => ?_)
              refine lv_goto (tgt := 12) hx hb dX3_readSum_77 (by decide) ?_
              exact ih_hL104 t122 x120 x113 x114 x115 fn121 H locs ls (by first | omega | decide) (by first | omega | decide) (by first | omega | decide) (by first | omega | decide) (by first | omega | (simp only [Int.toNat] at *; omega)) hP hD hS (lv_sub hl [0, 2, 3] rfl)
            · skip
              have fc117 : ra111.toInt = 0 := congrArg Int32.toInt c117
              refine lv_iconst (v := 0) hx hb dX3_readSum_56 (by decide) ?_
              subst hQ
              have hP9 := hP.sub (ws' := (wd_1ad0248d h0 h1 h3 x112 h1 h2 v1 x113 x114 x115 h2 g0 f5 h3 g1 fn116)) [0, 1, 2, 3] rfl
              have hD9 := hD.sub (ws' := (wd_1ad0248d h0 h1 h3 x112 h1 h2 v1 x113 x114 x115 h2 g0 f5 h3 g1 fn116)) [0, 1, 2, 3] (by decide) rfl
              have hK9 := hK.sub (tys' := []) [] rfl
              exact W.zret (v := 0) hx hb hr rfl (fun t ht hW => ⟨⟨0, (), rfl, ⟨by first | omega | decide, by first | omega | decide⟩, x112, x113, x114, x115, fn116, by first | omega | decide, by first | omega | decide, by rw [ht]; exact hP9, va_K.moved hW.alike hK9, hD9⟩, hS.F ht⟩) hS.2.2 dX3_readSum_57
          · skip
            have fc108 : ¬ (ra106.toInt = 43) := fun h9 => c108 (Int32.toInt_inj.mp h9)
            refine lv_iload_n hx hb dX3_readSum_33 rfl (lv_at hl 0 rfl) ?_
            refine lv_bipush (v := 45) hx hb dX3_readSum_34 (by decide) ?_
            refine lv_icmp_eq (tgt := 41) hx hb dX3_readSum_36 (by decide) (fun c123 => ?_) (fun c123 => ?_)
            · skip
              have fc123 : ra106.toInt = 45 := congrArg Int32.toInt c123
              refine lv_aload_n hx hb dX3_readSum_41 rfl (lv_at hl 2 rfl) ?_
              refine va_get (D := (dC, dI)) (ci := 3) (v := .ref h1) (C := RX3) (T := TX3) (N := 3) hx hb hts (fun _ h => List.mem_cons_of_mem _ (List.mem_append_left _ (List.mem_append_right _ h))) hown hK hP 0 rfl rfl 0 (by decide) (hts (.fieldLink RX3 19 "LeftArguments$LawReader" "tape" "LLeftArguments$Tape;") (List.mem_cons_of_mem _ (List.mem_append_left _ (List.mem_append_left _ (List.mem_of_getElem? (i := 2) rfl))))) (fun _ h9 => h9) rfl dX3_readSum_42 ?_
              have hPc := hP.sub (ws' := (wd_09b0abee h1 h2 v1 x107 x95 x96)) [1] rfl
              have hDc := hD.sub (ws' := (wd_09b0abee h1 h2 v1 x107 x95 x96)) [1] (by decide) rfl
              have hKc := hK.sub (tys' := []) [] rfl
              have hFc := va_free (wc := (wd_09b0abee h1 h2 v1 x107 x95 x96)) hD hS hA [1] rfl
              refine va_callv (va_runV (As := []) (rest := []) ⟨hx, hb, hml, hown, hts⟩ (k_X10_step l dC dI h1 h2 v1 x107 x95 x96 ⟨by first | omega | decide, by first | omega | decide⟩ H.size) (cwV 0 hts g_X3_readSum_1_2 rfl rfl rfl (by decide +kernel) ⟨Nat.le_of_ble_eq_true rfl, Nat.le_of_ble_eq_true rfl⟩) ⟨fun a U g mk q => by obtain ⟨q0, q1, qP, qK, qD⟩ := q; exact ⟨q0, q1, qP, va_K.moved (u := U) (U := U.calling g mk a) (Vm.Alike.refl U.vm) qK, qD⟩, va_recv hKc hPc (ci := 10) (q0 := 0) rfl rfl, fun U hU hW => ⟨rfl, by rw [hU], by rw [hU]; exact hPc, va_K.moved hW.alike hKc, hDc.weaken (fun _ _ _ _ => trivial)⟩⟩ rfl rfl hl.1 rfl (lv_room (Nat.le_of_ble_eq_true rfl)) dX3_readSum_45 ⟨Nat.le_of_ble_eq_true rfl, Nat.le_of_ble_eq_true rfl⟩) hS (fun q _ h => hFc q h) hFc (fun u t H1 locs ht hvm hwra124 hB hz1 hk1 hS => ?_)
              obtain ⟨x125, hP1, hK1, hD1⟩ := hB
              rw [ht] at hP1
              obtain ⟨hP, hD⟩ := va_join (wr := (wd_6b0d8e05 h0 h1 h3 x93 h2 g0 f5 h3 g1 fn97)) (w1 := (wd_09b0abee h1 h2 v1 x125 x95 x96)) hP hD [1] [0, 2, 3] rfl rfl (by decide) (by decide) hk1 hFc hP1 hD1
              generalize H1 = H at hP hS ⊢
              have hP := hP.sub (ws' := (wd_1ad0248d h0 h1 h3 x93 h1 h2 v1 x125 x95 x96 h2 g0 f5 h3 g1 fn97)) [0, 3, 1, 2] rfl
              have hD := hD.sub (ws' := (wd_1ad0248d h0 h1 h3 x93 h1 h2 v1 x125 x95 x96 h2 g0 f5 h3 g1 fn97)) [0, 3, 1, 2] (by decide) rfl
              have hP : va_P (dC, dI) vwCl (wd_1ad0248d h0 h1 h3 x93 h1 h2 v1 x125 x95 x96 h2 g0 f5 h3 g1 fn97) H := hP
              have hD : va_D A (wd_1ad0248d h0 h1 h3 x93 h1 h2 v1 x125 x95 x96 h2 g0 f5 h3 g1 fn97) := hD
              refine lv_aload_n hx hb dX3_readSum_48 rfl (lv_at hl 2 rfl) ?_
              refine lv_iload_n hx hb dX3_readSum_49 rfl (lv_at hl 3 rfl) ?_
              have hPc := hP.sub (ws' := (wd_1ad0248d h0 h1 h3 x93 h1 h2 v1 x125 x95 x96 h2 g0 f5 h3 g1 fn97)) [0, 1, 2, 3] rfl
              have hDc := hD.sub (ws' := (wd_1ad0248d h0 h1 h3 x93 h1 h2 v1 x125 x95 x96 h2 g0 f5 h3 g1 fn97)) [0, 1, 2, 3] (by decide) rfl
              have hKc := hK.sub (tys' := [(g0, .int), (g1, .int)]) [0, 1] rfl
              have hFc := va_free (wc := (wd_1ad0248d h0 h1 h3 x93 h1 h2 v1 x125 x95 x96 h2 g0 f5 h3 g1 fn97)) hD hS hA [0, 1, 2, 3] rfl
              refine va_calli (va_runV (As := [.int 5]) (rest := []) ⟨hx, hb, hml, hown, hts⟩ (k_X3_readTerm_1 l dC dI adK adV h0 h1 h2 h3 x93 v1 x125 x95 x96 g0 f5 g1 fn97 ⟨by first | omega | decide, by first | omega | decide⟩ ⟨by first | omega | decide, by first | omega | decide⟩ H.size) (cwV 1 hts g_X3_readSum_1_0 rfl rfl rfl (by decide +kernel) ⟨Nat.le_of_ble_eq_true rfl, Nat.le_of_ble_eq_true rfl⟩) ⟨fun a U g mk q => by obtain ⟨q0, q1, qP, qK, qD, n0, n1, n2⟩ := q; exact ⟨q0, q1, qP, va_K.moved (u := U) (U := U.calling g mk a) (Vm.Alike.refl U.vm) qK, qD, vk_R.same rfl n0, va_Z.moved (Vm.Alike.refl _) n1, vk_S.moved (Vm.Alike.refl _) n2⟩, va_recv hKc hPc (ci := 3) (q0 := 0) rfl rfl, fun U hU hW => ⟨rfl, by rw [hU], by rw [hU]; exact hPc, va_K.moved hW.alike hKc, hDc.weaken (fun _ _ _ _ => trivial), vk_R.warm hW h_vr_2, (by rw [hU]; exact (va_Z.moved hW.alike (va_Z.kept h_st_CS hS.2.1)).narrow hFc), (by rw [hU]; exact (vk_S.moved hW.alike (vk_S.kept h_st_S hS.2.1)).narrow hFc)⟩⟩ rfl rfl hl.1 rfl (lv_room (Nat.le_of_ble_eq_true rfl)) dX3_readSum_50 ⟨Nat.le_of_ble_eq_true rfl, Nat.le_of_ble_eq_true rfl⟩) hS (fun q _ h => hFc q h) hFc (fun ra126 u t H1 locs ht hvm hwra126 hB hz1 hk1 hS => ?_)
              obtain ⟨x127, x128, x129, x130, fn131, oa_x127, ob_x127, hP1, hK1, hD1⟩ := hB
              rw [ht] at hP1
              obtain ⟨hP, hD⟩ := va_join (wr := []) (w1 := (wd_1ad0248d h0 h1 h3 x127 h1 h2 v1 x128 x129 x130 h2 g0 f5 h3 g1 fn131)) hP hD [0, 1, 2, 3] [] rfl rfl (by decide) (by decide) hk1 hFc hP1 hD1
              generalize H1 = H at hP hS ⊢
              have hP : va_P (dC, dI) vwCl (wd_1ad0248d h0 h1 h3 x127 h1 h2 v1 x128 x129 x130 h2 g0 f5 h3 g1 fn131) H := hP
              have hD : va_D A (wd_1ad0248d h0 h1 h3 x127 h1 h2 v1 x128 x129 x130 h2 g0 f5 h3 g1 fn131) := hD
              obtain ⟨wa_ra126, wb_ra126⟩ := hwra126
              have wa_ra126 : 0 ≤ ra126.toInt := wa_ra126
              have wb_ra126 : ra126.toInt ≤ 1 := wb_ra126
              refine lv_if_ne (tgt := 58) hx hb dX3_readSum_53 (by decide) (fun c132 => ?_) (fun c132 => ?_)
              · skip
                have fc132 : ¬ (ra126.toInt = 0) := fun h9 => c132 (Int32.toInt_inj.mp h9)
                refine lv_aload_n hx hb dX3_readSum_58 rfl (lv_at hl 2 rfl) ?_
                refine lv_iload_n hx hb dX3_readSum_59 rfl (lv_at hl 0 rfl) ?_
                refine lv_bipush (v := 43) hx hb dX3_readSum_60 (by decide) ?_
                refine lv_icmp_ne (tgt := 69) hx hb dX3_readSum_62 (by decide) (fun _ => ?_) (fun c133 => by exfalso; have fc133 : ra106.toInt = 43 := congrArg Int32.toInt c133; omega)
                refine lv_iconst (v := 3) hx hb dX3_readSum_69 (by decide) ?_
                refine lv_iconst (v := 0) hx hb dX3_readSum_70 (by decide) ?_
                have hPc := hP.sub (ws' := (wd_b958b9da h0 h1 h3 x127 h3 g1 fn131)) [0, 3] rfl
                have hDc := hD.sub (ws' := (wd_b958b9da h0 h1 h3 x127 h3 g1 fn131)) [0, 3] (by decide) rfl
                have hKc := hK.sub (tys' := [(g1, .int)]) [1] rfl
                have hFc := va_free (wc := (wd_b958b9da h0 h1 h3 x127 h3 g1 fn131)) hD hS hA [0, 3] rfl
                refine va_callv (va_runV (As := [.int 3, .int 0]) (rest := []) ⟨hx, hb, hml, hown, hts⟩ (k_X3_write l dC dI h0 h3 h1 x127 g1 fn131 3 0 ⟨by first | omega | decide, by first | omega | decide⟩ H.size) (cwV 2 hts g_X3_readSum_1_4 rfl rfl rfl (by decide +kernel) ⟨Nat.le_of_ble_eq_true rfl, Nat.le_of_ble_eq_true rfl⟩) ⟨fun a U g mk q => by obtain ⟨q0, q1, qP, qK, qD⟩ := q; exact ⟨q0, q1, qP, va_K.moved (u := U) (U := U.calling g mk a) (Vm.Alike.refl U.vm) qK, qD⟩, va_recv hKc hPc (ci := 3) (q0 := 0) rfl rfl, fun U hU hW => ⟨rfl, by rw [hU], by rw [hU]; exact hPc, va_K.moved hW.alike hKc, hDc.weaken (fun _ _ _ _ => trivial)⟩⟩ rfl rfl hl.1 rfl (lv_room (Nat.le_of_ble_eq_true rfl)) dX3_readSum_71 ⟨Nat.le_of_ble_eq_true rfl, Nat.le_of_ble_eq_true rfl⟩) hS (fun q _ h => hFc q h) hFc (fun u t H1 locs ht hvm hwra134 hB hz1 hk1 hS => ?_)
                obtain ⟨x135, fn136, oa_x135, ob_x135, hP1, hK1, hD1⟩ := hB
                rw [ht] at hP1
                obtain ⟨hP, hD⟩ := va_join (wr := (wd_82cdd16b h1 h2 v1 x128 x129 x130 h2 g0 f5)) (w1 := (wd_b958b9da h0 h1 h3 x135 h3 g1 fn136)) hP hD [0, 3] [1, 2] rfl rfl (by decide) (by decide) hk1 hFc hP1 hD1
                generalize H1 = H at hP hS ⊢
                have hP := hP.sub (ws' := (wd_1ad0248d h0 h1 h3 x135 h1 h2 v1 x128 x129 x130 h2 g0 f5 h3 g1 fn136)) [2, 0, 1, 3] rfl
                have hD := hD.sub (ws' := (wd_1ad0248d h0 h1 h3 x135 h1 h2 v1 x128 x129 x130 h2 g0 f5 h3 g1 fn136)) [2, 0, 1, 3] (by decide) rfl
                have hP : va_P (dC, dI) vwCl (wd_1ad0248d h0 h1 h3 x135 h1 h2 v1 x128 x129 x130 h2 g0 f5 h3 g1 fn136) H := hP
                have hD : va_D A (wd_1ad0248d h0 h1 h3 x135 h1 h2 v1 x128 x129 x130 h2 g0 f5 h3 g1 fn136) := hD
                obtain ⟨t137, et137⟩ : ∃ y : Int32, y = x92 + 1 := ⟨_, rfl⟩
                have gt137 : t137.toInt = x92.toInt + (1) := pv_add (a := x92.toInt) (b := (1)) et137 rfl (by decide) (by omega) (by omega)
                refine lv_iinc (v := t137) (lv' := [(2, .int t137), (3, .int ra106), (0, .ref h0), (1, .int 5)]) hx hb dX3_readSum_74 hl (k := 1) rfl (by rw [et137]; rfl) (by decide) rfl (fun ls hl => ?_)
                refine lv_goto (tgt := 12) hx hb dX3_readSum_77 (by decide) ?_
                exact ih_hL104 t137 x135 x128 x129 x130 fn136 H locs ls (by first | omega | decide) (by first | omega | decide) (by first | omega | decide) (by first | omega | decide) (by first | omega | (simp only [Int.toNat] at *; omega)) hP hD hS (lv_sub hl [0, 2, 3] rfl)
              · skip
                have fc132 : ra126.toInt = 0 := congrArg Int32.toInt c132
                refine lv_iconst (v := 0) hx hb dX3_readSum_56 (by decide) ?_
                subst hQ
                have hP9 := hP.sub (ws' := (wd_1ad0248d h0 h1 h3 x127 h1 h2 v1 x128 x129 x130 h2 g0 f5 h3 g1 fn131)) [0, 1, 2, 3] rfl
                have hD9 := hD.sub (ws' := (wd_1ad0248d h0 h1 h3 x127 h1 h2 v1 x128 x129 x130 h2 g0 f5 h3 g1 fn131)) [0, 1, 2, 3] (by decide) rfl
                have hK9 := hK.sub (tys' := []) [] rfl
                exact W.zret (v := 0) hx hb hr rfl (fun t ht hW => ⟨⟨0, (), rfl, ⟨by first | omega | decide, by first | omega | decide⟩, x127, x128, x129, x130, fn131, by first | omega | decide, by first | omega | decide, by rw [ht]; exact hP9, va_K.moved hW.alike hK9, hD9⟩, hS.F ht⟩) hS.2.2 dX3_readSum_57
            · skip
              have fc123 : ¬ (ra106.toInt = 45) := fun h9 => c123 (Int32.toInt_inj.mp h9)
              refine lv_iconst (v := 1) hx hb dX3_readSum_39 (by decide) ?_
              subst hQ
              have hP9 := hP.sub (ws' := (wd_1ad0248d h0 h1 h3 x93 h1 h2 v1 x107 x95 x96 h2 g0 f5 h3 g1 fn97)) [0, 1, 2, 3] rfl
              have hD9 := hD.sub (ws' := (wd_1ad0248d h0 h1 h3 x93 h1 h2 v1 x107 x95 x96 h2 g0 f5 h3 g1 fn97)) [0, 1, 2, 3] (by decide) rfl
              have hK9 := hK.sub (tys' := []) [] rfl
              exact W.zret (v := 1) hx hb hr rfl (fun t ht hW => ⟨⟨1, (), rfl, ⟨by first | omega | decide, by first | omega | decide⟩, x93, x107, x95, x96, fn97, by first | omega | decide, by first | omega | decide, by rw [ht]; exact hP9, va_K.moved hW.alike hK9, hD9⟩, hS.F ht⟩) hS.2.2 dX3_readSum_40
    exact hL104 _ 0 x2 x3 x4 x5 fn6 H locs ls (by first | omega | decide) (by first | omega | decide) (by first | omega | decide) (by first | omega | decide) (Nat.lt_succ_self _) hP hD hS (lv_sub hl [0, 1, 2] rfl)
  · skip
    have fc7 : ra1.toInt = 0 := congrArg Int32.toInt c7
    refine lv_iconst (v := 0) hx hb dX3_readSum_8 (by decide) ?_
    subst hQ
    have hP9 := hP.sub (ws' := (wd_1ad0248d h0 h1 h3 x2 h1 h2 v1 x3 x4 x5 h2 g0 f5 h3 g1 fn6)) [0, 1, 2, 3] rfl
    have hD9 := hD.sub (ws' := (wd_1ad0248d h0 h1 h3 x2 h1 h2 v1 x3 x4 x5 h2 g0 f5 h3 g1 fn6)) [0, 1, 2, 3] (by decide) rfl
    have hK9 := hK.sub (tys' := []) [] rfl
    exact W.zret (v := 0) hx hb hr rfl (fun t ht hW => ⟨⟨0, (), rfl, ⟨by first | omega | decide, by first | omega | decide⟩, x2, x3, x4, x5, fn6, by first | omega | decide, by first | omega | decide, by rw [ht]; exact hP9, va_K.moved hW.alike hK9, hD9⟩, hS.F ht⟩) hS.2.2 dX3_readSum_9
def q_X3_readAtom_2 : List Cond := .code yX3_readAtom cX3_readAtom 4 (some .boolean) :: (([.fieldLink RX3 19 "LeftArguments$LawReader" "tape" "LLeftArguments$Tape;", .code yX10_next cX10_next 1 (some .int), .fieldLink RX10 19 "LeftArguments$Tape" "at" "I", .fieldLink RX10 15 "LeftArguments$Tape" "used" "I", .fieldLink RX10 9 "LeftArguments$Tape" "bytes" "[I", .initialized RX10, .instanceMethod yX10_next, .selects RX10 yX10_next yX10_next, .methodLink RX3 48 yX10_next, .code yX10_isDigit cX10_isDigit 1 (some .boolean), .static yX10_isDigit, .methodLink RX3 92 yX10_isDigit, .code yX10_step cX10_step 1 none, .instanceMethod yX10_step, .selects RX10 yX10_step yX10_step, .methodLink RX3 77 yX10_step, .code yX3_write cX3_write 3 none, .fieldLink RX3 15 "LeftArguments$LawReader" "used" "I", .fieldLink RX3 11 "LeftArguments$LawReader" "code" "[I", .initialized RX3, .instanceMethod yX3_write, .selects RX3 yX3_write yX3_write, .methodLink RX3 66 yX3_write, .code yX10_wrongHere cX10_wrongHere 1 (some .boolean), .fieldLink RX10 22 "LeftArguments$Tape" "wrongAt" "I", .instanceMethod yX10_wrongHere, .selects RX10 yX10_wrongHere yX10_wrongHere, .methodLink RX3 83 yX10_wrongHere, .code yJ0_indexOf_0f7a4 cJ0_indexOf_0f7a4 2 (some .int), .code yJ0_indexOf_7cf53 cJ0_indexOf_7cf53 3 (some .int), .code yJ0_isLatin1_aae02 cJ0_isLatin1_aae02 1 (some .boolean), .fieldLink RJ0 38 "java/lang/String" "COMPACT_STRINGS" "Z", .fieldLink RJ0 15 "java/lang/String" "coder" "B", .initialized RJ0, .instanceMethod yJ0_isLatin1_aae02, .selects RJ0 yJ0_isLatin1_aae02 yJ0_isLatin1_aae02, .methodLink RJ0 492 yJ0_isLatin1_aae02, .fieldLink RJ0 9 "java/lang/String" "value" "[B", .code yJ0_length_8abf5 cJ0_length_8abf5 1 (some .int), .code yJ0_coder_7d493 cJ0_coder_7d493 1 (some .byte), .instanceMethod yJ0_coder_7d493, .selects RJ0 yJ0_coder_7d493 yJ0_coder_7d493, .methodLink RJ0 335 yJ0_coder_7d493, .instanceMethod yJ0_length_8abf5, .selects RJ0 yJ0_length_8abf5 yJ0_length_8abf5, .methodLink RJ0 505 yJ0_length_8abf5, .code yJ1_indexOf_4cfef cJ1_indexOf_4cfef 4 (some .int), .code yJ1_canEncode_9a6ad cJ1_canEncode_9a6ad 1 (some .boolean), .initialized RJ1, .static yJ1_canEncode_9a6ad, .methodLink RJ1 88 yJ1_canEncode_9a6ad, .methodLink RJ1 92 Lib.Math.max.name, .static Lib.Math.max.name, .initialized "java/lang/Math", .code Lib.Math.max.name Lib.Math.max.code 2 (some .int), .methodLink RJ1 38 Lib.Math.min.name, .static Lib.Math.min.name, .code Lib.Math.min.name Lib.Math.min.code 2 (some .int), .code yJ1_indexOfChar_4cfef cJ1_indexOfChar_4cfef 6 (some .int), .static yJ1_indexOfChar_4cfef, .methodLink RJ1 95 yJ1_indexOfChar_4cfef, .static yJ1_indexOf_4cfef, .methodLink RJ0 637 yJ1_indexOf_4cfef, .instanceMethod yJ0_indexOf_7cf53, .selects RJ0 yJ0_indexOf_7cf53 yJ0_indexOf_7cf53, .methodLink RJ0 633 yJ0_indexOf_7cf53, .instanceMethod yJ0_indexOf_0f7a4, .selects RJ0 yJ0_indexOf_0f7a4 yJ0_indexOf_0f7a4, .methodLink RX3 103 yJ0_indexOf_0f7a4, .code yX10_takeNumber cX10_takeNumber 3 (some .boolean), .methodLink RX10 37 yX10_next, .methodLink RX10 45 yX10_isDigit, .fieldLink RX10 25 "LeftArguments$Tape" "number" "I", .code yX10_sign cX10_sign 1 (some .int), .instanceMethod yX10_sign, .selects RX10 yX10_sign yX10_sign, .methodLink RX10 49 yX10_sign, .methodLink RX10 41 yX10_wrongHere, .instanceMethod yX10_takeNumber, .selects RX10 yX10_takeNumber yX10_takeNumber, .methodLink RX3 95 yX10_takeNumber, .code yX10_number cX10_number 1 (some .int), .instanceMethod yX10_number, .selects RX10 yX10_number yX10_number, .methodLink RX3 98 yX10_number, .code yX3_readSum cX3_readSum 4 (some .boolean), .code yX3_readTerm cX3_readTerm 4 (some .boolean), .code yX3_readAtom cX3_readAtom 4 (some .boolean), .instanceMethod yX3_readAtom, .selects RX3 yX3_readAtom yX3_readAtom, .methodLink RX3 89 yX3_readAtom, .instanceMethod yX3_readTerm, .selects RX3 yX3_readTerm yX3_readTerm, .methodLink RX3 86 yX3_readTerm, .instanceMethod yX3_readSum, .selects RX3 yX3_readSum yX3_readSum, .methodLink RX3 59 yX3_readSum, .code yX10_take cX10_take 2 (some .boolean), .instanceMethod yX10_take, .selects RX10 yX10_take yX10_take, .methodLink RX3 51 yX10_take] : List Cond) ++ wsX30 ++ wsX100)
set_option maxRecDepth 20000 in
theorem g_X3_readAtom_2_0 : GoodIn q_X3_readAtom_2 (wsV RX3 48 RX10 yX10_next q_X10_next) := goodIn_app (goodIn_r _ [9, 7, 8, 6] rfl (by decide +kernel)) (goodIn_ca (goodIn_r (.code yX10_next cX10_next 1 (some .int) :: [.fieldLink RX10 19 "LeftArguments$Tape" "at" "I", .fieldLink RX10 15 "LeftArguments$Tape" "used" "I", .fieldLink RX10 9 "LeftArguments$Tape" "bytes" "[I"]) [2, 3, 4, 5] rfl (by decide +kernel)) (goodIn_sub (fun _ h => List.mem_cons_of_mem _ (List.mem_append_right _ h)) gwX10))
set_option maxRecDepth 20000 in
theorem g_X3_readAtom_2_1 : GoodIn q_X3_readAtom_2 (va_wsS RX3 92 yX10_isDigit q_X10_isDigit) := goodIn_app (goodIn_r _ [12, 11, 6] rfl (by decide +kernel)) (goodIn_r (.code yX10_isDigit cX10_isDigit 1 (some .boolean) :: []) [10] rfl (by decide +kernel))
set_option maxRecDepth 20000 in
theorem g_X3_readAtom_2_2 : GoodIn q_X3_readAtom_2 (wsV RX3 77 RX10 yX10_step q_X10_step) := goodIn_app (goodIn_r _ [16, 14, 15, 6] rfl (by decide +kernel)) (goodIn_ca (goodIn_r (.code yX10_step cX10_step 1 none :: [.fieldLink RX10 19 "LeftArguments$Tape" "at" "I"]) [13, 3] rfl (by decide +kernel)) (goodIn_sub (fun _ h => List.mem_cons_of_mem _ (List.mem_append_right _ h)) gwX10))
set_option maxRecDepth 20000 in
theorem g_X3_readAtom_2_3 : GoodIn q_X3_readAtom_2 (wsV RX3 66 RX3 yX3_write q_X3_write) := goodIn_app (goodIn_r _ [23, 21, 22, 20] rfl (by decide +kernel)) (goodIn_ca (goodIn_r (.code yX3_write cX3_write 3 none :: [.fieldLink RX3 15 "LeftArguments$LawReader" "used" "I", .fieldLink RX3 11 "LeftArguments$LawReader" "code" "[I"]) [17, 18, 19] rfl (by decide +kernel)) (goodIn_sub (fun _ h => List.mem_cons_of_mem _ (List.mem_append_left _ (List.mem_append_right _ h))) gwX3))
set_option maxRecDepth 20000 in
theorem g_X3_readAtom_2_4 : GoodIn q_X3_readAtom_2 (wsV RX3 83 RX10 yX10_wrongHere q_X10_wrongHere) := goodIn_app (goodIn_r _ [28, 26, 27, 6] rfl (by decide +kernel)) (goodIn_ca (goodIn_r (.code yX10_wrongHere cX10_wrongHere 1 (some .boolean) :: [.fieldLink RX10 19 "LeftArguments$Tape" "at" "I", .fieldLink RX10 22 "LeftArguments$Tape" "wrongAt" "I"]) [24, 3, 25] rfl (by decide +kernel)) (goodIn_sub (fun _ h => List.mem_cons_of_mem _ (List.mem_append_right _ h)) gwX10))
set_option maxRecDepth 20000 in
theorem g_X3_readAtom_2_5 : GoodIn q_X3_readAtom_2 (wsV RX3 103 RJ0 yJ0_indexOf_0f7a4 q_J0_indexOf_0f7a4) := goodIn_app (goodIn_r _ [69, 67, 68, 34] rfl (by decide +kernel)) (goodIn_r (.code yJ0_indexOf_0f7a4 cJ0_indexOf_0f7a4 2 (some .int) :: [.code yJ0_indexOf_7cf53 cJ0_indexOf_7cf53 3 (some .int), .code yJ0_isLatin1_aae02 cJ0_isLatin1_aae02 1 (some .boolean), .fieldLink RJ0 38 "java/lang/String" "COMPACT_STRINGS" "Z", .fieldLink RJ0 15 "java/lang/String" "coder" "B", .initialized RJ0, .instanceMethod yJ0_isLatin1_aae02, .selects RJ0 yJ0_isLatin1_aae02 yJ0_isLatin1_aae02, .methodLink RJ0 492 yJ0_isLatin1_aae02, .fieldLink RJ0 9 "java/lang/String" "value" "[B", .code yJ0_length_8abf5 cJ0_length_8abf5 1 (some .int), .code yJ0_coder_7d493 cJ0_coder_7d493 1 (some .byte), .instanceMethod yJ0_coder_7d493, .selects RJ0 yJ0_coder_7d493 yJ0_coder_7d493, .methodLink RJ0 335 yJ0_coder_7d493, .instanceMethod yJ0_length_8abf5, .selects RJ0 yJ0_length_8abf5 yJ0_length_8abf5, .methodLink RJ0 505 yJ0_length_8abf5, .code yJ1_indexOf_4cfef cJ1_indexOf_4cfef 4 (some .int), .code yJ1_canEncode_9a6ad cJ1_canEncode_9a6ad 1 (some .boolean), .initialized RJ1, .static yJ1_canEncode_9a6ad, .methodLink RJ1 88 yJ1_canEncode_9a6ad, .methodLink RJ1 92 Lib.Math.max.name, .static Lib.Math.max.name, .initialized "java/lang/Math", .code Lib.Math.max.name Lib.Math.max.code 2 (some .int), .methodLink RJ1 38 Lib.Math.min.name, .static Lib.Math.min.name, .code Lib.Math.min.name Lib.Math.min.code 2 (some .int), .code yJ1_indexOfChar_4cfef cJ1_indexOfChar_4cfef 6 (some .int), .static yJ1_indexOfChar_4cfef, .methodLink RJ1 95 yJ1_indexOfChar_4cfef, .static yJ1_indexOf_4cfef, .methodLink RJ0 637 yJ1_indexOf_4cfef, .instanceMethod yJ0_indexOf_7cf53, .selects RJ0 yJ0_indexOf_7cf53 yJ0_indexOf_7cf53, .methodLink RJ0 633 yJ0_indexOf_7cf53]) [29, 30, 31, 32, 33, 34, 35, 36, 37, 38, 39, 40, 41, 42, 43, 44, 45, 46, 47, 48, 49, 50, 51, 52, 53, 54, 55, 56, 57, 58, 59, 60, 61, 62, 63, 64, 65, 66] rfl (by decide +kernel))
set_option maxRecDepth 20000 in
theorem g_X3_readAtom_2_6 : GoodIn q_X3_readAtom_2 (wsV RX3 95 RX10 yX10_takeNumber q_X10_takeNumber) := goodIn_app (goodIn_r _ [81, 79, 80, 6] rfl (by decide +kernel)) (goodIn_ca (goodIn_r (.code yX10_takeNumber cX10_takeNumber 3 (some .boolean) :: [.code yX10_next cX10_next 1 (some .int), .fieldLink RX10 19 "LeftArguments$Tape" "at" "I", .fieldLink RX10 15 "LeftArguments$Tape" "used" "I", .fieldLink RX10 9 "LeftArguments$Tape" "bytes" "[I", .initialized RX10, .instanceMethod yX10_next, .selects RX10 yX10_next yX10_next, .methodLink RX10 37 yX10_next, .code yX10_isDigit cX10_isDigit 1 (some .boolean), .static yX10_isDigit, .methodLink RX10 45 yX10_isDigit, .fieldLink RX10 25 "LeftArguments$Tape" "number" "I", .code yX10_sign cX10_sign 1 (some .int), .instanceMethod yX10_sign, .selects RX10 yX10_sign yX10_sign, .methodLink RX10 49 yX10_sign, .code yX10_wrongHere cX10_wrongHere 1 (some .boolean), .fieldLink RX10 22 "LeftArguments$Tape" "wrongAt" "I", .instanceMethod yX10_wrongHere, .selects RX10 yX10_wrongHere yX10_wrongHere, .methodLink RX10 41 yX10_wrongHere]) [70, 2, 3, 4, 5, 6, 7, 8, 71, 10, 11, 72, 73, 74, 75, 76, 77, 24, 25, 26, 27, 78] rfl (by decide +kernel)) (goodIn_sub (fun _ h => List.mem_cons_of_mem _ (List.mem_append_right _ h)) gwX10))
set_option maxRecDepth 20000 in
theorem g_X3_readAtom_2_7 : GoodIn q_X3_readAtom_2 (wsV RX3 98 RX10 yX10_number q_X10_number) := goodIn_app (goodIn_r _ [85, 83, 84, 6] rfl (by decide +kernel)) (goodIn_ca (goodIn_r (.code yX10_number cX10_number 1 (some .int) :: [.fieldLink RX10 25 "LeftArguments$Tape" "number" "I"]) [82, 73] rfl (by decide +kernel)) (goodIn_sub (fun _ h => List.mem_cons_of_mem _ (List.mem_append_right _ h)) gwX10))
set_option maxRecDepth 20000 in
theorem g_X3_readAtom_2_10 : GoodIn q_X3_readAtom_2 (wsV RX3 59 RX3 yX3_readSum q_X3_readSum_1) := goodIn_app (goodIn_r _ [97, 95, 96, 20] rfl (by decide +kernel)) (goodIn_ca (goodIn_ca (goodIn_r (.code yX3_readSum cX3_readSum 4 (some .boolean) :: [.code yX3_readTerm cX3_readTerm 4 (some .boolean), .code yX3_readAtom cX3_readAtom 4 (some .boolean), .fieldLink RX3 19 "LeftArguments$LawReader" "tape" "LLeftArguments$Tape;", .code yX10_next cX10_next 1 (some .int), .fieldLink RX10 19 "LeftArguments$Tape" "at" "I", .fieldLink RX10 15 "LeftArguments$Tape" "used" "I", .fieldLink RX10 9 "LeftArguments$Tape" "bytes" "[I", .initialized RX10, .instanceMethod yX10_next, .selects RX10 yX10_next yX10_next, .methodLink RX3 48 yX10_next, .code yX10_isDigit cX10_isDigit 1 (some .boolean), .static yX10_isDigit, .methodLink RX3 92 yX10_isDigit, .code yX10_step cX10_step 1 none, .instanceMethod yX10_step, .selects RX10 yX10_step yX10_step, .methodLink RX3 77 yX10_step, .code yX3_write cX3_write 3 none, .fieldLink RX3 15 "LeftArguments$LawReader" "used" "I", .fieldLink RX3 11 "LeftArguments$LawReader" "code" "[I", .initialized RX3, .instanceMethod yX3_write, .selects RX3 yX3_write yX3_write, .methodLink RX3 66 yX3_write, .code yX10_wrongHere cX10_wrongHere 1 (some .boolean), .fieldLink RX10 22 "LeftArguments$Tape" "wrongAt" "I", .instanceMethod yX10_wrongHere, .selects RX10 yX10_wrongHere yX10_wrongHere, .methodLink RX3 83 yX10_wrongHere, .code yJ0_indexOf_0f7a4 cJ0_indexOf_0f7a4 2 (some .int), .code yJ0_indexOf_7cf53 cJ0_indexOf_7cf53 3 (some .int), .code yJ0_isLatin1_aae02 cJ0_isLatin1_aae02 1 (some .boolean), .fieldLink RJ0 38 "java/lang/String" "COMPACT_STRINGS" "Z", .fieldLink RJ0 15 "java/lang/String" "coder" "B", .initialized RJ0, .instanceMethod yJ0_isLatin1_aae02, .selects RJ0 yJ0_isLatin1_aae02 yJ0_isLatin1_aae02, .methodLink RJ0 492 yJ0_isLatin1_aae02, .fieldLink RJ0 9 "java/lang/String" "value" "[B", .code yJ0_length_8abf5 cJ0_length_8abf5 1 (some .int), .code yJ0_coder_7d493 cJ0_coder_7d493 1 (some .byte), .instanceMethod yJ0_coder_7d493, .selects RJ0 yJ0_coder_7d493 yJ0_coder_7d493, .methodLink RJ0 335 yJ0_coder_7d493, .instanceMethod yJ0_length_8abf5, .selects RJ0 yJ0_length_8abf5 yJ0_length_8abf5, .methodLink RJ0 505 yJ0_length_8abf5, .code yJ1_indexOf_4cfef cJ1_indexOf_4cfef 4 (some .int), .code yJ1_canEncode_9a6ad cJ1_canEncode_9a6ad 1 (some .boolean), .initialized RJ1, .static yJ1_canEncode_9a6ad, .methodLink RJ1 88 yJ1_canEncode_9a6ad, .methodLink RJ1 92 Lib.Math.max.name, .static Lib.Math.max.name, .initialized "java/lang/Math", .code Lib.Math.max.name Lib.Math.max.code 2 (some .int), .methodLink RJ1 38 Lib.Math.min.name, .static Lib.Math.min.name, .code Lib.Math.min.name Lib.Math.min.code 2 (some .int), .code yJ1_indexOfChar_4cfef cJ1_indexOfChar_4cfef 6 (some .int), .static yJ1_indexOfChar_4cfef, .methodLink RJ1 95 yJ1_indexOfChar_4cfef, .static yJ1_indexOf_4cfef, .methodLink RJ0 637 yJ1_indexOf_4cfef, .instanceMethod yJ0_indexOf_7cf53, .selects RJ0 yJ0_indexOf_7cf53 yJ0_indexOf_7cf53, .methodLink RJ0 633 yJ0_indexOf_7cf53, .instanceMethod yJ0_indexOf_0f7a4, .selects RJ0 yJ0_indexOf_0f7a4 yJ0_indexOf_0f7a4, .methodLink RX3 103 yJ0_indexOf_0f7a4, .code yX10_takeNumber cX10_takeNumber 3 (some .boolean), .methodLink RX10 37 yX10_next, .methodLink RX10 45 yX10_isDigit, .fieldLink RX10 25 "LeftArguments$Tape" "number" "I", .code yX10_sign cX10_sign 1 (some .int), .instanceMethod yX10_sign, .selects RX10 yX10_sign yX10_sign, .methodLink RX10 49 yX10_sign, .methodLink RX10 41 yX10_wrongHere, .instanceMethod yX10_takeNumber, .selects RX10 yX10_takeNumber yX10_takeNumber, .methodLink RX3 95 yX10_takeNumber, .code yX10_number cX10_number 1 (some .int), .instanceMethod yX10_number, .selects RX10 yX10_number yX10_number, .methodLink RX3 98 yX10_number, .code yX3_readSum cX3_readSum 4 (some .boolean), .instanceMethod yX3_readAtom, .selects RX3 yX3_readAtom yX3_readAtom, .methodLink RX3 89 yX3_readAtom, .instanceMethod yX3_readTerm, .selects RX3 yX3_readTerm yX3_readTerm, .methodLink RX3 86 yX3_readTerm, .instanceMethod yX3_readSum, .selects RX3 yX3_readSum yX3_readSum, .methodLink RX3 59 yX3_readSum, .code yX10_take cX10_take 2 (some .boolean), .instanceMethod yX10_take, .selects RX10 yX10_take yX10_take, .methodLink RX3 51 yX10_take]) [86, 87, 88, 1, 2, 3, 4, 5, 6, 7, 8, 9, 10, 11, 12, 13, 14, 15, 16, 17, 18, 19, 20, 21, 22, 23, 24, 25, 26, 27, 28, 29, 30, 31, 32, 33, 34, 35, 36, 37, 38, 39, 40, 41, 42, 43, 44, 45, 46, 47, 48, 49, 50, 51, 52, 53, 54, 55, 56, 57, 58, 59, 60, 61, 62, 63, 64, 65, 66, 67, 68, 69, 70, 71, 72, 73, 74, 75, 76, 77, 78, 79, 80, 81, 82, 83, 84, 85, 86, 89, 90, 91, 92, 93, 94, 95, 96, 97, 98, 99, 100, 101] rfl (by decide +kernel)) (goodIn_sub (fun _ h => List.mem_cons_of_mem _ (List.mem_append_left _ (List.mem_append_right _ h))) gwX3)) (goodIn_sub (fun _ h => List.mem_cons_of_mem _ (List.mem_append_right _ h)) gwX10))
set_option maxRecDepth 20000 in
theorem g_X3_readAtom_2_11 : GoodIn q_X3_readAtom_2 (wsV RX3 51 RX10 yX10_take q_X10_take) := goodIn_app (goodIn_r _ [101, 99, 100, 6] rfl (by decide +kernel)) (goodIn_ca (goodIn_r (.code yX10_take cX10_take 2 (some .boolean) :: [.code yX10_next cX10_next 1 (some .int), .fieldLink RX10 19 "LeftArguments$Tape" "at" "I", .fieldLink RX10 15 "LeftArguments$Tape" "used" "I", .fieldLink RX10 9 "LeftArguments$Tape" "bytes" "[I", .initialized RX10, .instanceMethod yX10_next, .selects RX10 yX10_next yX10_next, .methodLink RX10 37 yX10_next, .code yX10_wrongHere cX10_wrongHere 1 (some .boolean), .fieldLink RX10 22 "LeftArguments$Tape" "wrongAt" "I", .instanceMethod yX10_wrongHere, .selects RX10 yX10_wrongHere yX10_wrongHere, .methodLink RX10 41 yX10_wrongHere]) [98, 2, 3, 4, 5, 6, 7, 8, 71, 24, 25, 26, 27, 78] rfl (by decide +kernel)) (goodIn_sub (fun _ h => List.mem_cons_of_mem _ (List.mem_append_right _ h)) gwX10))
set_option maxHeartbeats 4000000 in
set_option maxRecDepth 100000 in
theorem k_X3_readAtom_2 (l : Launch) (dC : Nat → ClassId) (dI : Nat → Nat → Nat) (adK : Nat → Nat) (adV : Nat → Nat) (h0 : Nat) (h1 : Nat) (h2 : Nat) (h3 : Nat) (v0 : Int32) (v1 : Int32) (v2 : Int32) (v3 : Int32) (v4 : Int32) (g0 : ClassId) (f5 : Nat → Int32) (g1 : ClassId) (f6 : Nat → Int32) (i_v0 : 0 ≤ v0.toInt ∧ v0.toInt ≤ 256) (i_v1 : 0 ≤ v1.toInt ∧ v1.toInt ≤ 240) (sz : Nat) : Met l yX3_readAtom q_X3_readAtom_2 ({ frames := 10, cells := 0, slots := 0, locals := 229 }) (va_Pc [.ref h0, .int 4] (fun U => U.heap.size = sz ∧ va_P (dC, dI) vwCl (wd_1ad0248d h0 h1 h3 v0 h1 h2 v1 v2 v3 v4 h2 g0 f5 h3 g1 f6) U.heap ∧ va_K (dC, dI) vwCl [(g0, .int), (g1, .int)] U ∧ va_D (fun _ => True) (wd_1ad0248d h0 h1 h3 v0 h1 h2 v1 v2 v3 v4 h2 g0 f5 h3 g1 f6) ∧ vk_R RX3 101 "zaondt" (adK 2) U ∧ va_Z "java/lang/String" "COMPACT_STRINGS" "Z" (.int 1) (va_A (wd_1ad0248d h0 h1 h3 v0 h1 h2 v1 v2 v3 v4 h2 g0 f5 h3 g1 f6) sz) U U.heap ∧ vk_S 3 pv_len3 pv_byt3 adK adV (va_A (wd_1ad0248d h0 h1 h3 v0 h1 h2 v1 v2 v3 v4 h2 g0 f5 h3 g1 f6) sz) U U.heap)) (va_Qi (fun (r : Int32) (_ : Unit) => 0 ≤ r.toInt ∧ r.toInt ≤ 1) (fun (_ : Unit) (t : State) => ∃ (o_h0_2 : Int32) (o_h1_2 : Int32) (o_h1_3 : Int32) (o_h1_4 : Int32) (o_h3 : Nat → Int32), 0 ≤ o_h0_2.toInt ∧ o_h0_2.toInt ≤ 256 ∧ va_P (dC, dI) vwCl (wd_1ad0248d h0 h1 h3 o_h0_2 h1 h2 v1 o_h1_2 o_h1_3 o_h1_4 h2 g0 f5 h3 g1 o_h3) t.heap ∧ va_K (dC, dI) vwCl [] t ∧ va_D (va_A (wd_1ad0248d h0 h1 h3 v0 h1 h2 v1 v2 v3 v4 h2 g0 f5 h3 g1 f6) sz) (wd_1ad0248d h0 h1 h3 o_h0_2 h1 h2 v1 o_h1_2 o_h1_3 o_h1_4 h2 g0 f5 h3 g1 o_h3)) (va_A (wd_1ad0248d h0 h1 h3 v0 h1 h2 v1 v2 v3 v4 h2 g0 f5 h3 g1 f6) sz)) 0 0 (va_A (wd_1ad0248d h0 h1 h3 v0 h1 h2 v1 v2 v3 v4 h2 g0 f5 h3 g1 f6) sz) := by
  refine Met.ofW (cc := cX3_readAtom) (maxL := 4) (ret := (some .boolean)) (by decide) rfl ?_
  intro p e s m args below meth c s₁ B hml hv
  obtain ⟨i_v0a, i_v0b⟩ := i_v0
  obtain ⟨i_v1a, i_v1b⟩ := i_v1
  obtain ⟨rfl, hsz, hP, hK, hD0, h_vr_2, h_st_CS, h_st_S⟩ := hv
  have hx := B.exec
  have hb := B.bytes
  have hr := B.returns
  have hts := atoms_spec (ws := q_X3_readAtom_2) B.pre
  have hown : s.vm.findClass RX3 = some m.cls := findClass_of_methodNamed B.named
  have hlocks := B.notSynchronized
  subst hsz
  have hD := hD0.self (sz := s.heap.size)
  generalize hAe : va_A (wd_1ad0248d h0 h1 h3 v0 h1 h2 v1 v2 v3 v4 h2 g0 f5 h3 g1 f6) s.heap.size = A at hD h_st_CS h_st_S ⊢
  have hA : ∀ q : Nat, s.heap.size ≤ q → A q := fun q h => by rw [← hAe]; exact Or.inr h
  have hS : va_S A s.heap s.heap [] := va_S.rf
  generalize hQ : (MQ below _ _ s 0 0 A) = Q
  have hl := lv_entry ([.ref h0, .int 4]) (n := 4) (Nat.le_of_ble_eq_true rfl)
  rw [lg_entry_eq]
  generalize (lg_sl ([.ref h0, .int 4]) ++ List.replicate (4 - (lg_sl ([.ref h0, .int 4])).length) Slot.unset).toArray = ls at hl ⊢
  have hl : lv_has ls 4 [(0, .ref h0), (1, .int 4)] := hl
  obtain ⟨H, hH⟩ : ∃ H : Heap, H = s.heap := ⟨_, rfl⟩
  obtain ⟨locs, hlocs⟩ : ∃ y : List Loc, y = [] := ⟨_, rfl⟩
  have hS : va_S A s.heap H locs := by rw [hH, hlocs]; exact va_S.rf
  have hP : va_P (dC, dI) vwCl (wd_1ad0248d h0 h1 h3 v0 h1 h2 v1 v2 v3 v4 h2 g0 f5 h3 g1 f6) H := by rw [hH]; exact hP
  rw [← hH, ← hlocs]
  refine lv_aload_n hx hb dX3_readAtom_0 rfl (lv_at hl 0 rfl) ?_
  refine va_get (D := (dC, dI)) (ci := 3) (v := .ref h1) (C := RX3) (T := TX3) (N := 3) hx hb hts (fun _ h => List.mem_cons_of_mem _ (List.mem_append_left _ (List.mem_append_right _ h))) hown hK hP 0 rfl rfl 0 (by decide) (hts (.fieldLink RX3 19 "LeftArguments$LawReader" "tape" "LLeftArguments$Tape;") (List.mem_cons_of_mem _ (List.mem_append_left _ (List.mem_append_left _ (List.mem_of_getElem? (i := 0) rfl))))) (fun _ h9 => h9) rfl dX3_readAtom_1 ?_
  have hPc := hP.sub (ws' := (wd_82cdd16b h1 h2 v1 v2 v3 v4 h2 g0 f5)) [1, 2] rfl
  have hDc := hD.sub (ws' := (wd_82cdd16b h1 h2 v1 v2 v3 v4 h2 g0 f5)) [1, 2] (by decide) rfl
  have hKc := hK.sub (tys' := [(g0, .int)]) [0] rfl
  have hFc := va_free (wc := (wd_82cdd16b h1 h2 v1 v2 v3 v4 h2 g0 f5)) hD hS hA [1, 2] rfl
  refine va_calli (va_runV (As := []) (rest := []) ⟨hx, hb, hml, hown, hts⟩ (k_X10_next l dC dI h1 h2 v1 v2 v3 v4 g0 f5 ⟨by first | omega | decide, by first | omega | decide⟩ H.size) (cwV 0 hts g_X3_readAtom_2_0 rfl rfl rfl (by decide +kernel) ⟨Nat.le_of_ble_eq_true rfl, Nat.le_of_ble_eq_true rfl⟩) ⟨fun a U g mk q => by obtain ⟨q0, q1, qP, qK, qD⟩ := q; exact ⟨q0, q1, qP, va_K.moved (u := U) (U := U.calling g mk a) (Vm.Alike.refl U.vm) qK, qD⟩, va_recv hKc hPc (ci := 10) (q0 := 0) rfl rfl, fun U hU hW => ⟨rfl, by rw [hU], by rw [hU]; exact hPc, va_K.moved hW.alike hKc, hDc.weaken (fun _ _ _ _ => trivial)⟩⟩ rfl rfl hl.1 rfl (lv_room (Nat.le_of_ble_eq_true rfl)) dX3_readAtom_4 ⟨Nat.le_of_ble_eq_true rfl, Nat.le_of_ble_eq_true rfl⟩) hS (fun q _ h => hFc q h) hFc (fun ra1 u t H1 locs ht hvm hwra1 hB hz1 hk1 hS => ?_)
  obtain ⟨x2, hP1, hK1, hD1⟩ := hB
  rw [ht] at hP1
  obtain ⟨hP, hD⟩ := va_join (wr := (wd_b958b9da h0 h1 h3 v0 h3 g1 f6)) (w1 := (wd_82cdd16b h1 h2 v1 x2 v3 v4 h2 g0 f5)) hP hD [1, 2] [0, 3] rfl rfl (by decide) (by decide) hk1 hFc hP1 hD1
  generalize H1 = H at hP hS ⊢
  have hP := hP.sub (ws' := (wd_1ad0248d h0 h1 h3 v0 h1 h2 v1 x2 v3 v4 h2 g0 f5 h3 g1 f6)) [0, 2, 3, 1] rfl
  have hD := hD.sub (ws' := (wd_1ad0248d h0 h1 h3 v0 h1 h2 v1 x2 v3 v4 h2 g0 f5 h3 g1 f6)) [0, 2, 3, 1] (by decide) rfl
  have hP : va_P (dC, dI) vwCl (wd_1ad0248d h0 h1 h3 v0 h1 h2 v1 x2 v3 v4 h2 g0 f5 h3 g1 f6) H := hP
  have hD : va_D A (wd_1ad0248d h0 h1 h3 v0 h1 h2 v1 x2 v3 v4 h2 g0 f5 h3 g1 f6) := hD
  refine lv_istore_n (lv' := [(2, .int ra1), (0, .ref h0), (1, .int 4)]) hx hb dX3_readAtom_7 rfl hl (by decide) rfl (fun ls hl => ?_)
  refine lv_iload_n hx hb dX3_readAtom_8 rfl (lv_at hl 0 rfl) ?_
  refine lv_bipush (v := 91) hx hb dX3_readAtom_9 (by decide) ?_
  refine lv_icmp_ne (tgt := 55) hx hb dX3_readAtom_11 (by decide) (fun c3 => ?_) (fun c3 => ?_)
  · skip
    have fc3 : ¬ (ra1.toInt = 91) := fun h9 => c3 (Int32.toInt_inj.mp h9)
    refine lv_iload_n hx hb dX3_readAtom_55 rfl (lv_at hl 0 rfl) ?_
    have hPc := hP.sub (ws' := []) [] rfl
    have hDc := hD.sub (ws' := []) [] (by decide) rfl
    have hKc := hK.sub (tys' := []) [] rfl
    have hFc := va_free (wc := []) hD hS hA [] rfl
    refine va_calli (va_runS (As := [.int ra1]) (rest := []) ⟨hx, hb, hml, hown, hts⟩ (k_X10_isDigit l dC dI ra1  H.size) (va_cwS 1 hts g_X3_readAtom_2_1 rfl rfl rfl (by decide +kernel) ⟨Nat.le_of_ble_eq_true rfl, Nat.le_of_ble_eq_true rfl⟩) ⟨fun a U g mk q => by obtain ⟨q0, q1, qP, qK, qD⟩ := q; exact ⟨q0, q1, qP, va_K.moved (u := U) (U := U.calling g mk a) (Vm.Alike.refl U.vm) qK, qD⟩, fun U hU hW => ⟨rfl, by rw [hU], by rw [hU]; exact hPc, va_K.moved hW.alike hKc, hDc.weaken (fun _ _ _ _ => trivial)⟩⟩ rfl rfl hl.1 rfl (lv_room (Nat.le_of_ble_eq_true rfl)) dX3_readAtom_56 ⟨Nat.le_of_ble_eq_true rfl, Nat.le_of_ble_eq_true rfl⟩) hS (fun q _ h => hFc q h) hFc (fun ra4 u t H1 locs ht hvm hwra4 hB hz1 hk1 hS => ?_)
    obtain ⟨hP1, hK1, hD1⟩ := hB
    rw [ht] at hP1
    obtain ⟨hP, hD⟩ := va_join (wr := (wd_1ad0248d h0 h1 h3 v0 h1 h2 v1 x2 v3 v4 h2 g0 f5 h3 g1 f6)) (w1 := []) hP hD [] [0, 1, 2, 3] rfl rfl (by decide) (by decide) hk1 hFc hP1 hD1
    generalize H1 = H at hP hS ⊢
    have hP : va_P (dC, dI) vwCl (wd_1ad0248d h0 h1 h3 v0 h1 h2 v1 x2 v3 v4 h2 g0 f5 h3 g1 f6) H := hP
    have hD : va_D A (wd_1ad0248d h0 h1 h3 v0 h1 h2 v1 x2 v3 v4 h2 g0 f5 h3 g1 f6) := hD
    obtain ⟨wa_ra4, wb_ra4⟩ := hwra4
    have wa_ra4 : 0 ≤ ra4.toInt := wa_ra4
    have wb_ra4 : ra4.toInt ≤ 1 := wb_ra4
    refine lv_if_eq (tgt := 89) hx hb dX3_readAtom_59 (by decide) (fun c5 => ?_) (fun c5 => ?_)
    · skip
      have fc5 : ra4.toInt = 0 := congrArg Int32.toInt c5
      refine lv_iload_n hx hb dX3_readAtom_89 rfl (lv_at hl 0 rfl) ?_
      refine lv_iconst (v := (-1)) hx hb dX3_readAtom_90 (by decide) ?_
      have hJ7 : ∀ (x6 : Int32) (H : Heap) (locs : List Loc) (ls : Array Slot), -1 ≤ x6.toInt → x6.toInt ≤ 5 → va_P (dC, dI) vwCl (wd_1ad0248d h0 h1 h3 v0 h1 h2 v1 x2 v3 v4 h2 g0 f5 h3 g1 f6) H → va_D A (wd_1ad0248d h0 h1 h3 v0 h1 h2 v1 x2 v3 v4 h2 g0 f5 h3 g1 f6) → va_S A s.heap H locs → lv_has ls 4 [(2, .int ra1), (0, .ref h0), (1, .int 4)] → W p l e ({ frames := 10, cells := 0, slots := 0, locals := 229 }) s m ([.ref h0, .int 4] : List Value).toArray below meth c H locs 0 0 Q (F0 m 105 ls [.int x6]) := by
        intro x6 H locs ls qa_x6 qb_x6 hP hD hS hl
        refine lv_istore_n (lv' := [(3, .int x6), (2, .int ra1), (0, .ref h0), (1, .int 4)]) hx hb dX3_readAtom_105 rfl hl (by decide) rfl (fun ls hl => ?_)
        refine lv_iload_n hx hb dX3_readAtom_106 rfl (lv_at hl 0 rfl) ?_
        refine lv_if_ge (tgt := 118) hx hb dX3_readAtom_107 (by decide) (fun c8 => ?_) (fun c8 => ?_)
        · skip
          have fc8 : 0 ≤ x6.toInt := Int32.le_iff_toInt_le.mp c8
          refine lv_aload_n hx hb dX3_readAtom_118 rfl (lv_at hl 2 rfl) ?_
          refine va_get (D := (dC, dI)) (ci := 3) (v := .ref h1) (C := RX3) (T := TX3) (N := 3) hx hb hts (fun _ h => List.mem_cons_of_mem _ (List.mem_append_left _ (List.mem_append_right _ h))) hown hK hP 0 rfl rfl 0 (by decide) (hts (.fieldLink RX3 19 "LeftArguments$LawReader" "tape" "LLeftArguments$Tape;") (List.mem_cons_of_mem _ (List.mem_append_left _ (List.mem_append_left _ (List.mem_of_getElem? (i := 0) rfl))))) (fun _ h9 => h9) rfl dX3_readAtom_119 ?_
          have hPc := hP.sub (ws' := (wd_09b0abee h1 h2 v1 x2 v3 v4)) [1] rfl
          have hDc := hD.sub (ws' := (wd_09b0abee h1 h2 v1 x2 v3 v4)) [1] (by decide) rfl
          have hKc := hK.sub (tys' := []) [] rfl
          have hFc := va_free (wc := (wd_09b0abee h1 h2 v1 x2 v3 v4)) hD hS hA [1] rfl
          refine va_callv (va_runV (As := []) (rest := []) ⟨hx, hb, hml, hown, hts⟩ (k_X10_step l dC dI h1 h2 v1 x2 v3 v4 ⟨by first | omega | decide, by first | omega | decide⟩ H.size) (cwV 0 hts g_X3_readAtom_2_2 rfl rfl rfl (by decide +kernel) ⟨Nat.le_of_ble_eq_true rfl, Nat.le_of_ble_eq_true rfl⟩) ⟨fun a U g mk q => by obtain ⟨q0, q1, qP, qK, qD⟩ := q; exact ⟨q0, q1, qP, va_K.moved (u := U) (U := U.calling g mk a) (Vm.Alike.refl U.vm) qK, qD⟩, va_recv hKc hPc (ci := 10) (q0 := 0) rfl rfl, fun U hU hW => ⟨rfl, by rw [hU], by rw [hU]; exact hPc, va_K.moved hW.alike hKc, hDc.weaken (fun _ _ _ _ => trivial)⟩⟩ rfl rfl hl.1 rfl (lv_room (Nat.le_of_ble_eq_true rfl)) dX3_readAtom_122 ⟨Nat.le_of_ble_eq_true rfl, Nat.le_of_ble_eq_true rfl⟩) hS (fun q _ h => hFc q h) hFc (fun u t H1 locs ht hvm hwra9 hB hz1 hk1 hS => ?_)
          obtain ⟨x10, hP1, hK1, hD1⟩ := hB
          rw [ht] at hP1
          obtain ⟨hP, hD⟩ := va_join (wr := (wd_6b0d8e05 h0 h1 h3 v0 h2 g0 f5 h3 g1 f6)) (w1 := (wd_09b0abee h1 h2 v1 x10 v3 v4)) hP hD [1] [0, 2, 3] rfl rfl (by decide) (by decide) hk1 hFc hP1 hD1
          generalize H1 = H at hP hS ⊢
          have hP := hP.sub (ws' := (wd_1ad0248d h0 h1 h3 v0 h1 h2 v1 x10 v3 v4 h2 g0 f5 h3 g1 f6)) [0, 3, 1, 2] rfl
          have hD := hD.sub (ws' := (wd_1ad0248d h0 h1 h3 v0 h1 h2 v1 x10 v3 v4 h2 g0 f5 h3 g1 f6)) [0, 3, 1, 2] (by decide) rfl
          have hP : va_P (dC, dI) vwCl (wd_1ad0248d h0 h1 h3 v0 h1 h2 v1 x10 v3 v4 h2 g0 f5 h3 g1 f6) H := hP
          have hD : va_D A (wd_1ad0248d h0 h1 h3 v0 h1 h2 v1 x10 v3 v4 h2 g0 f5 h3 g1 f6) := hD
          refine lv_aload_n hx hb dX3_readAtom_125 rfl (lv_at hl 2 rfl) ?_
          refine lv_iconst (v := 1) hx hb dX3_readAtom_126 (by decide) ?_
          refine lv_iload_n hx hb dX3_readAtom_127 rfl (lv_at hl 0 rfl) ?_
          have hPc := hP.sub (ws' := (wd_b958b9da h0 h1 h3 v0 h3 g1 f6)) [0, 3] rfl
          have hDc := hD.sub (ws' := (wd_b958b9da h0 h1 h3 v0 h3 g1 f6)) [0, 3] (by decide) rfl
          have hKc := hK.sub (tys' := [(g1, .int)]) [1] rfl
          have hFc := va_free (wc := (wd_b958b9da h0 h1 h3 v0 h3 g1 f6)) hD hS hA [0, 3] rfl
          refine va_callv (va_runV (As := [.int 1, .int x6]) (rest := []) ⟨hx, hb, hml, hown, hts⟩ (k_X3_write l dC dI h0 h3 h1 v0 g1 f6 1 x6 ⟨by first | omega | decide, by first | omega | decide⟩ H.size) (cwV 2 hts g_X3_readAtom_2_3 rfl rfl rfl (by decide +kernel) ⟨Nat.le_of_ble_eq_true rfl, Nat.le_of_ble_eq_true rfl⟩) ⟨fun a U g mk q => by obtain ⟨q0, q1, qP, qK, qD⟩ := q; exact ⟨q0, q1, qP, va_K.moved (u := U) (U := U.calling g mk a) (Vm.Alike.refl U.vm) qK, qD⟩, va_recv hKc hPc (ci := 3) (q0 := 0) rfl rfl, fun U hU hW => ⟨rfl, by rw [hU], by rw [hU]; exact hPc, va_K.moved hW.alike hKc, hDc.weaken (fun _ _ _ _ => trivial)⟩⟩ rfl rfl hl.1 rfl (lv_room (Nat.le_of_ble_eq_true rfl)) dX3_readAtom_128 ⟨Nat.le_of_ble_eq_true rfl, Nat.le_of_ble_eq_true rfl⟩) hS (fun q _ h => hFc q h) hFc (fun u t H1 locs ht hvm hwra11 hB hz1 hk1 hS => ?_)
          obtain ⟨x12, fn13, oa_x12, ob_x12, hP1, hK1, hD1⟩ := hB
          rw [ht] at hP1
          obtain ⟨hP, hD⟩ := va_join (wr := (wd_82cdd16b h1 h2 v1 x10 v3 v4 h2 g0 f5)) (w1 := (wd_b958b9da h0 h1 h3 x12 h3 g1 fn13)) hP hD [0, 3] [1, 2] rfl rfl (by decide) (by decide) hk1 hFc hP1 hD1
          generalize H1 = H at hP hS ⊢
          have hP := hP.sub (ws' := (wd_1ad0248d h0 h1 h3 x12 h1 h2 v1 x10 v3 v4 h2 g0 f5 h3 g1 fn13)) [2, 0, 1, 3] rfl
          have hD := hD.sub (ws' := (wd_1ad0248d h0 h1 h3 x12 h1 h2 v1 x10 v3 v4 h2 g0 f5 h3 g1 fn13)) [2, 0, 1, 3] (by decide) rfl
          have hP : va_P (dC, dI) vwCl (wd_1ad0248d h0 h1 h3 x12 h1 h2 v1 x10 v3 v4 h2 g0 f5 h3 g1 fn13) H := hP
          have hD : va_D A (wd_1ad0248d h0 h1 h3 x12 h1 h2 v1 x10 v3 v4 h2 g0 f5 h3 g1 fn13) := hD
          refine lv_iconst (v := 1) hx hb dX3_readAtom_131 (by decide) ?_
          subst hQ
          have hP9 := hP.sub (ws' := (wd_1ad0248d h0 h1 h3 x12 h1 h2 v1 x10 v3 v4 h2 g0 f5 h3 g1 fn13)) [0, 1, 2, 3] rfl
          have hD9 := hD.sub (ws' := (wd_1ad0248d h0 h1 h3 x12 h1 h2 v1 x10 v3 v4 h2 g0 f5 h3 g1 fn13)) [0, 1, 2, 3] (by decide) rfl
          have hK9 := hK.sub (tys' := []) [] rfl
          exact W.zret (v := 1) hx hb hr rfl (fun t ht hW => ⟨⟨1, (), rfl, ⟨by first | omega | decide, by first | omega | decide⟩, x12, x10, v3, v4, fn13, by first | omega | decide, by first | omega | decide, by rw [ht]; exact hP9, va_K.moved hW.alike hK9, hD9⟩, hS.F ht⟩) hS.2.2 dX3_readAtom_132
        · skip
          have fc8 : ¬ (0 ≤ x6.toInt) := fun h9 => c8 (Int32.le_iff_toInt_le.mpr h9)
          refine lv_aload_n hx hb dX3_readAtom_110 rfl (lv_at hl 2 rfl) ?_
          refine va_get (D := (dC, dI)) (ci := 3) (v := .ref h1) (C := RX3) (T := TX3) (N := 3) hx hb hts (fun _ h => List.mem_cons_of_mem _ (List.mem_append_left _ (List.mem_append_right _ h))) hown hK hP 0 rfl rfl 0 (by decide) (hts (.fieldLink RX3 19 "LeftArguments$LawReader" "tape" "LLeftArguments$Tape;") (List.mem_cons_of_mem _ (List.mem_append_left _ (List.mem_append_left _ (List.mem_of_getElem? (i := 0) rfl))))) (fun _ h9 => h9) rfl dX3_readAtom_111 ?_
          have hPc := hP.sub (ws' := (wd_09b0abee h1 h2 v1 x2 v3 v4)) [1] rfl
          have hDc := hD.sub (ws' := (wd_09b0abee h1 h2 v1 x2 v3 v4)) [1] (by decide) rfl
          have hKc := hK.sub (tys' := []) [] rfl
          have hFc := va_free (wc := (wd_09b0abee h1 h2 v1 x2 v3 v4)) hD hS hA [1] rfl
          refine va_calli (va_runV (As := []) (rest := []) ⟨hx, hb, hml, hown, hts⟩ (k_X10_wrongHere l dC dI h1 h2 v1 x2 v3 v4 ⟨by first | omega | decide, by first | omega | decide⟩ H.size) (cwV 0 hts g_X3_readAtom_2_4 rfl rfl rfl (by decide +kernel) ⟨Nat.le_of_ble_eq_true rfl, Nat.le_of_ble_eq_true rfl⟩) ⟨fun a U g mk q => by obtain ⟨q0, q1, qP, qK, qD⟩ := q; exact ⟨q0, q1, qP, va_K.moved (u := U) (U := U.calling g mk a) (Vm.Alike.refl U.vm) qK, qD⟩, va_recv hKc hPc (ci := 10) (q0 := 0) rfl rfl, fun U hU hW => ⟨rfl, by rw [hU], by rw [hU]; exact hPc, va_K.moved hW.alike hKc, hDc.weaken (fun _ _ _ _ => trivial)⟩⟩ rfl rfl hl.1 rfl (lv_room (Nat.le_of_ble_eq_true rfl)) dX3_readAtom_114 ⟨Nat.le_of_ble_eq_true rfl, Nat.le_of_ble_eq_true rfl⟩) hS (fun q _ h => hFc q h) hFc (fun ra14 u t H1 locs ht hvm hwra14 hB hz1 hk1 hS => ?_)
          obtain ⟨x15, hP1, hK1, hD1⟩ := hB
          rw [ht] at hP1
          obtain ⟨hP, hD⟩ := va_join (wr := (wd_6b0d8e05 h0 h1 h3 v0 h2 g0 f5 h3 g1 f6)) (w1 := (wd_09b0abee h1 h2 v1 x2 x15 v4)) hP hD [1] [0, 2, 3] rfl rfl (by decide) (by decide) hk1 hFc hP1 hD1
          generalize H1 = H at hP hS ⊢
          have hP := hP.sub (ws' := (wd_1ad0248d h0 h1 h3 v0 h1 h2 v1 x2 x15 v4 h2 g0 f5 h3 g1 f6)) [0, 3, 1, 2] rfl
          have hD := hD.sub (ws' := (wd_1ad0248d h0 h1 h3 v0 h1 h2 v1 x2 x15 v4 h2 g0 f5 h3 g1 f6)) [0, 3, 1, 2] (by decide) rfl
          have hP : va_P (dC, dI) vwCl (wd_1ad0248d h0 h1 h3 v0 h1 h2 v1 x2 x15 v4 h2 g0 f5 h3 g1 f6) H := hP
          have hD : va_D A (wd_1ad0248d h0 h1 h3 v0 h1 h2 v1 x2 x15 v4 h2 g0 f5 h3 g1 f6) := hD
          obtain ⟨wa_ra14, wb_ra14⟩ := hwra14
          have wa_ra14 : 0 ≤ ra14.toInt := wa_ra14
          have wb_ra14 : ra14.toInt ≤ 0 := wb_ra14
          subst hQ
          have hP9 := hP.sub (ws' := (wd_1ad0248d h0 h1 h3 v0 h1 h2 v1 x2 x15 v4 h2 g0 f5 h3 g1 f6)) [0, 1, 2, 3] rfl
          have hD9 := hD.sub (ws' := (wd_1ad0248d h0 h1 h3 v0 h1 h2 v1 x2 x15 v4 h2 g0 f5 h3 g1 f6)) [0, 1, 2, 3] (by decide) rfl
          have hK9 := hK.sub (tys' := []) [] rfl
          exact W.zret (v := ra14) hx hb hr (pv_nz (by omega) (by omega)) (fun t ht hW => ⟨⟨ra14, (), rfl, ⟨by first | omega | decide, by first | omega | decide⟩, v0, x2, x15, v4, f6, by first | omega | decide, by first | omega | decide, by rw [ht]; exact hP9, va_K.moved hW.alike hK9, hD9⟩, hS.F ht⟩) hS.2.2 dX3_readAtom_117
      refine lv_icmp_ne (tgt := 98) hx hb dX3_readAtom_91 (by decide) (fun c16 => ?_) (fun c16 => ?_)
      · skip
        have fc16 : ¬ (ra1.toInt = (-1)) := fun h9 => c16 (Int32.toInt_inj.mp h9)
        refine va_ldcS hx hb hown h_vr_2 dX3_readAtom_98 ?_
        refine lv_iload_n hx hb dX3_readAtom_100 rfl (lv_at hl 0 rfl) ?_
        obtain ⟨t17, et17⟩ : ∃ z : Int32, z = ((ra1 : Int32).toUInt32 % 65536).toInt32 := ⟨_, rfl⟩
        refine lv_i2c (v := t17) hx hb dX3_readAtom_101 (by rw [et17]) ?_
        have hPc := hP.sub (ws' := []) [] rfl
        have hDc := hD.sub (ws' := []) [] (by decide) rfl
        have hKc := hK.sub (tys' := []) [] rfl
        have hFc := va_free (wc := []) hD hS hA [] rfl
        refine va_calli (va_runV (As := [.int t17]) (rest := []) ⟨hx, hb, hml, hown, hts⟩ (k_J0_indexOf_0f7a4 l dC dI adK adV t17  H.size) (cwV 1 hts g_X3_readAtom_2_5 rfl rfl rfl (by decide +kernel) ⟨Nat.le_of_ble_eq_true rfl, Nat.le_of_ble_eq_true rfl⟩) ⟨fun a U g mk q => by obtain ⟨q0, q1, qP, qK, qD, n0, n1⟩ := q; exact ⟨q0, q1, qP, va_K.moved (u := U) (U := U.calling g mk a) (Vm.Alike.refl U.vm) qK, qD, va_Z.moved (Vm.Alike.refl _) n0, vk_S.moved (Vm.Alike.refl _) n1⟩, vk_recv h_st_S (by decide : 2 < 3) hS, fun U hU hW => ⟨rfl, by rw [hU], by rw [hU]; exact hPc, va_K.moved hW.alike hKc, hDc.weaken (fun _ _ _ _ => trivial), (by rw [hU]; exact (va_Z.moved hW.alike (va_Z.kept h_st_CS hS.2.1)).narrow hFc), (by rw [hU]; exact (vk_S.moved hW.alike (vk_S.kept h_st_S hS.2.1)).narrow hFc)⟩⟩ rfl rfl hl.1 rfl (lv_room (Nat.le_of_ble_eq_true rfl)) dX3_readAtom_102 ⟨Nat.le_of_ble_eq_true rfl, Nat.le_of_ble_eq_true rfl⟩) hS (fun q _ h => hFc q h) hFc (fun ra18 u t H1 locs ht hvm hwra18 hB hz1 hk1 hS => ?_)
        obtain ⟨hP1, hK1, hD1⟩ := hB
        rw [ht] at hP1
        obtain ⟨hP, hD⟩ := va_join (wr := (wd_1ad0248d h0 h1 h3 v0 h1 h2 v1 x2 v3 v4 h2 g0 f5 h3 g1 f6)) (w1 := []) hP hD [] [0, 1, 2, 3] rfl rfl (by decide) (by decide) hk1 hFc hP1 hD1
        generalize H1 = H at hP hS ⊢
        have hP : va_P (dC, dI) vwCl (wd_1ad0248d h0 h1 h3 v0 h1 h2 v1 x2 v3 v4 h2 g0 f5 h3 g1 f6) H := hP
        have hD : va_D A (wd_1ad0248d h0 h1 h3 v0 h1 h2 v1 x2 v3 v4 h2 g0 f5 h3 g1 f6) := hD
        obtain ⟨wa_ra18, wb_ra18⟩ := hwra18
        have wa_ra18 : -1 ≤ ra18.toInt := wa_ra18
        have wb_ra18 : ra18.toInt ≤ 5 := wb_ra18
        exact hJ7 ra18 H locs ls (by first | omega | decide) (by first | omega | decide) hP hD hS (lv_sub hl [0, 1, 2] rfl)
      · skip
        have fc16 : ra1.toInt = (-1) := congrArg Int32.toInt c16
        refine lv_iconst (v := (-1)) hx hb dX3_readAtom_94 (by decide) ?_
        refine lv_goto (tgt := 105) hx hb dX3_readAtom_95 (by decide) ?_
        exact hJ7 ((-1)) H locs ls (by first | omega | decide) (by first | omega | decide) hP hD hS (lv_sub hl [0, 1, 2] rfl)
    · skip
      have fc5 : ¬ (ra4.toInt = 0) := fun h9 => c5 (Int32.toInt_inj.mp h9)
      refine lv_aload_n hx hb dX3_readAtom_62 rfl (lv_at hl 1 rfl) ?_
      refine va_get (D := (dC, dI)) (ci := 3) (v := .ref h1) (C := RX3) (T := TX3) (N := 3) hx hb hts (fun _ h => List.mem_cons_of_mem _ (List.mem_append_left _ (List.mem_append_right _ h))) hown hK hP 0 rfl rfl 0 (by decide) (hts (.fieldLink RX3 19 "LeftArguments$LawReader" "tape" "LLeftArguments$Tape;") (List.mem_cons_of_mem _ (List.mem_append_left _ (List.mem_append_left _ (List.mem_of_getElem? (i := 0) rfl))))) (fun _ h9 => h9) rfl dX3_readAtom_63 ?_
      refine lv_iconst (v := 4) hx hb dX3_readAtom_66 (by decide) ?_
      have hPc := hP.sub (ws' := (wd_82cdd16b h1 h2 v1 x2 v3 v4 h2 g0 f5)) [1, 2] rfl
      have hDc := hD.sub (ws' := (wd_82cdd16b h1 h2 v1 x2 v3 v4 h2 g0 f5)) [1, 2] (by decide) rfl
      have hKc := hK.sub (tys' := [(g0, .int)]) [0] rfl
      have hFc := va_free (wc := (wd_82cdd16b h1 h2 v1 x2 v3 v4 h2 g0 f5)) hD hS hA [1, 2] rfl
      refine va_calli (va_runV (As := [.int 4]) (rest := []) ⟨hx, hb, hml, hown, hts⟩ (k_X10_takeNumber l dC dI h1 h2 v1 x2 v3 v4 g0 f5 4 ⟨by first | omega | decide, by first | omega | decide⟩ H.size) (cwV 1 hts g_X3_readAtom_2_6 rfl rfl rfl (by decide +kernel) ⟨Nat.le_of_ble_eq_true rfl, Nat.le_of_ble_eq_true rfl⟩) ⟨fun a U g mk q => by obtain ⟨q0, q1, qP, qK, qD⟩ := q; exact ⟨q0, q1, qP, va_K.moved (u := U) (U := U.calling g mk a) (Vm.Alike.refl U.vm) qK, qD⟩, va_recv hKc hPc (ci := 10) (q0 := 0) rfl rfl, fun U hU hW => ⟨rfl, by rw [hU], by rw [hU]; exact hPc, va_K.moved hW.alike hKc, hDc.weaken (fun _ _ _ _ => trivial)⟩⟩ rfl rfl hl.1 rfl (lv_room (Nat.le_of_ble_eq_true rfl)) dX3_readAtom_67 ⟨Nat.le_of_ble_eq_true rfl, Nat.le_of_ble_eq_true rfl⟩) hS (fun q _ h => hFc q h) hFc (fun ra19 u t H1 locs ht hvm hwra19 hB hz1 hk1 hS => ?_)
      obtain ⟨x20, x21, x22, hP1, hK1, hD1⟩ := hB
      rw [ht] at hP1
      obtain ⟨hP, hD⟩ := va_join (wr := (wd_b958b9da h0 h1 h3 v0 h3 g1 f6)) (w1 := (wd_82cdd16b h1 h2 v1 x20 x21 x22 h2 g0 f5)) hP hD [1, 2] [0, 3] rfl rfl (by decide) (by decide) hk1 hFc hP1 hD1
      generalize H1 = H at hP hS ⊢
      have hP := hP.sub (ws' := (wd_1ad0248d h0 h1 h3 v0 h1 h2 v1 x20 x21 x22 h2 g0 f5 h3 g1 f6)) [0, 2, 3, 1] rfl
      have hD := hD.sub (ws' := (wd_1ad0248d h0 h1 h3 v0 h1 h2 v1 x20 x21 x22 h2 g0 f5 h3 g1 f6)) [0, 2, 3, 1] (by decide) rfl
      have hP : va_P (dC, dI) vwCl (wd_1ad0248d h0 h1 h3 v0 h1 h2 v1 x20 x21 x22 h2 g0 f5 h3 g1 f6) H := hP
      have hD : va_D A (wd_1ad0248d h0 h1 h3 v0 h1 h2 v1 x20 x21 x22 h2 g0 f5 h3 g1 f6) := hD
      obtain ⟨wa_ra19, wb_ra19⟩ := hwra19
      have wa_ra19 : 0 ≤ ra19.toInt := wa_ra19
      have wb_ra19 : ra19.toInt ≤ 1 := wb_ra19
      refine lv_if_ne (tgt := 75) hx hb dX3_readAtom_70 (by decide) (fun c23 => ?_) (fun c23 => ?_)
      · skip
        have fc23 : ¬ (ra19.toInt = 0) := fun h9 => c23 (Int32.toInt_inj.mp h9)
        refine lv_aload_n hx hb dX3_readAtom_75 rfl (lv_at hl 1 rfl) ?_
        refine lv_iconst (v := 0) hx hb dX3_readAtom_76 (by decide) ?_
        refine lv_aload_n hx hb dX3_readAtom_77 rfl (lv_at hl 1 rfl) ?_
        refine va_get (D := (dC, dI)) (ci := 3) (v := .ref h1) (C := RX3) (T := TX3) (N := 3) hx hb hts (fun _ h => List.mem_cons_of_mem _ (List.mem_append_left _ (List.mem_append_right _ h))) hown hK hP 0 rfl rfl 0 (by decide) (hts (.fieldLink RX3 19 "LeftArguments$LawReader" "tape" "LLeftArguments$Tape;") (List.mem_cons_of_mem _ (List.mem_append_left _ (List.mem_append_left _ (List.mem_of_getElem? (i := 0) rfl))))) (fun _ h9 => h9) rfl dX3_readAtom_78 ?_
        have hPc := hP.sub (ws' := (wd_09b0abee h1 h2 v1 x20 x21 x22)) [1] rfl
        have hDc := hD.sub (ws' := (wd_09b0abee h1 h2 v1 x20 x21 x22)) [1] (by decide) rfl
        have hKc := hK.sub (tys' := []) [] rfl
        have hFc := va_free (wc := (wd_09b0abee h1 h2 v1 x20 x21 x22)) hD hS hA [1] rfl
        refine va_calli (va_runV (As := []) (rest := [.int 0, .ref h0]) ⟨hx, hb, hml, hown, hts⟩ (k_X10_number l dC dI h1 h2 v1 x20 x21 x22 ⟨by first | omega | decide, by first | omega | decide⟩ H.size) (cwV 0 hts g_X3_readAtom_2_7 rfl rfl rfl (by decide +kernel) ⟨Nat.le_of_ble_eq_true rfl, Nat.le_of_ble_eq_true rfl⟩) ⟨fun a U g mk q => by obtain ⟨q0, q1, qP, qK, qD⟩ := q; exact ⟨q0, q1, qP, va_K.moved (u := U) (U := U.calling g mk a) (Vm.Alike.refl U.vm) qK, qD⟩, va_recv hKc hPc (ci := 10) (q0 := 0) rfl rfl, fun U hU hW => ⟨rfl, by rw [hU], by rw [hU]; exact hPc, va_K.moved hW.alike hKc, hDc.weaken (fun _ _ _ _ => trivial)⟩⟩ rfl rfl hl.1 rfl (lv_room (Nat.le_of_ble_eq_true rfl)) dX3_readAtom_81 ⟨Nat.le_of_ble_eq_true rfl, Nat.le_of_ble_eq_true rfl⟩) hS (fun q _ h => hFc q h) hFc (fun ra24 u t H1 locs ht hvm hwra24 hB hz1 hk1 hS => ?_)
        obtain ⟨hP1, hK1, hD1⟩ := hB
        rw [ht] at hP1
        obtain ⟨hP, hD⟩ := va_join (wr := (wd_6b0d8e05 h0 h1 h3 v0 h2 g0 f5 h3 g1 f6)) (w1 := (wd_09b0abee h1 h2 v1 x20 x21 x22)) hP hD [1] [0, 2, 3] rfl rfl (by decide) (by decide) hk1 hFc hP1 hD1
        generalize H1 = H at hP hS ⊢
        have hP := hP.sub (ws' := (wd_1ad0248d h0 h1 h3 v0 h1 h2 v1 x20 x21 x22 h2 g0 f5 h3 g1 f6)) [0, 3, 1, 2] rfl
        have hD := hD.sub (ws' := (wd_1ad0248d h0 h1 h3 v0 h1 h2 v1 x20 x21 x22 h2 g0 f5 h3 g1 f6)) [0, 3, 1, 2] (by decide) rfl
        have hP : va_P (dC, dI) vwCl (wd_1ad0248d h0 h1 h3 v0 h1 h2 v1 x20 x21 x22 h2 g0 f5 h3 g1 f6) H := hP
        have hD : va_D A (wd_1ad0248d h0 h1 h3 v0 h1 h2 v1 x20 x21 x22 h2 g0 f5 h3 g1 f6) := hD
        have hPc := hP.sub (ws' := (wd_b958b9da h0 h1 h3 v0 h3 g1 f6)) [0, 3] rfl
        have hDc := hD.sub (ws' := (wd_b958b9da h0 h1 h3 v0 h3 g1 f6)) [0, 3] (by decide) rfl
        have hKc := hK.sub (tys' := [(g1, .int)]) [1] rfl
        have hFc := va_free (wc := (wd_b958b9da h0 h1 h3 v0 h3 g1 f6)) hD hS hA [0, 3] rfl
        refine va_callv (va_runV (As := [.int 0, .int ra24]) (rest := []) ⟨hx, hb, hml, hown, hts⟩ (k_X3_write l dC dI h0 h3 h1 v0 g1 f6 0 ra24 ⟨by first | omega | decide, by first | omega | decide⟩ H.size) (cwV 2 hts g_X3_readAtom_2_3 rfl rfl rfl (by decide +kernel) ⟨Nat.le_of_ble_eq_true rfl, Nat.le_of_ble_eq_true rfl⟩) ⟨fun a U g mk q => by obtain ⟨q0, q1, qP, qK, qD⟩ := q; exact ⟨q0, q1, qP, va_K.moved (u := U) (U := U.calling g mk a) (Vm.Alike.refl U.vm) qK, qD⟩, va_recv hKc hPc (ci := 3) (q0 := 0) rfl rfl, fun U hU hW => ⟨rfl, by rw [hU], by rw [hU]; exact hPc, va_K.moved hW.alike hKc, hDc.weaken (fun _ _ _ _ => trivial)⟩⟩ rfl rfl hl.1 rfl (lv_room (Nat.le_of_ble_eq_true rfl)) dX3_readAtom_84 ⟨Nat.le_of_ble_eq_true rfl, Nat.le_of_ble_eq_true rfl⟩) hS (fun q _ h => hFc q h) hFc (fun u t H1 locs ht hvm hwra25 hB hz1 hk1 hS => ?_)
        obtain ⟨x26, fn27, oa_x26, ob_x26, hP1, hK1, hD1⟩ := hB
        rw [ht] at hP1
        obtain ⟨hP, hD⟩ := va_join (wr := (wd_82cdd16b h1 h2 v1 x20 x21 x22 h2 g0 f5)) (w1 := (wd_b958b9da h0 h1 h3 x26 h3 g1 fn27)) hP hD [0, 3] [1, 2] rfl rfl (by decide) (by decide) hk1 hFc hP1 hD1
        generalize H1 = H at hP hS ⊢
        have hP := hP.sub (ws' := (wd_1ad0248d h0 h1 h3 x26 h1 h2 v1 x20 x21 x22 h2 g0 f5 h3 g1 fn27)) [2, 0, 1, 3] rfl
        have hD := hD.sub (ws' := (wd_1ad0248d h0 h1 h3 x26 h1 h2 v1 x20 x21 x22 h2 g0 f5 h3 g1 fn27)) [2, 0, 1, 3] (by decide) rfl
        have hP : va_P (dC, dI) vwCl (wd_1ad0248d h0 h1 h3 x26 h1 h2 v1 x20 x21 x22 h2 g0 f5 h3 g1 fn27) H := hP
        have hD : va_D A (wd_1ad0248d h0 h1 h3 x26 h1 h2 v1 x20 x21 x22 h2 g0 f5 h3 g1 fn27) := hD
        refine lv_iconst (v := 1) hx hb dX3_readAtom_87 (by decide) ?_
        subst hQ
        have hP9 := hP.sub (ws' := (wd_1ad0248d h0 h1 h3 x26 h1 h2 v1 x20 x21 x22 h2 g0 f5 h3 g1 fn27)) [0, 1, 2, 3] rfl
        have hD9 := hD.sub (ws' := (wd_1ad0248d h0 h1 h3 x26 h1 h2 v1 x20 x21 x22 h2 g0 f5 h3 g1 fn27)) [0, 1, 2, 3] (by decide) rfl
        have hK9 := hK.sub (tys' := []) [] rfl
        exact W.zret (v := 1) hx hb hr rfl (fun t ht hW => ⟨⟨1, (), rfl, ⟨by first | omega | decide, by first | omega | decide⟩, x26, x20, x21, x22, fn27, by first | omega | decide, by first | omega | decide, by rw [ht]; exact hP9, va_K.moved hW.alike hK9, hD9⟩, hS.F ht⟩) hS.2.2 dX3_readAtom_88
      · skip
        have fc23 : ra19.toInt = 0 := congrArg Int32.toInt c23
        refine lv_iconst (v := 0) hx hb dX3_readAtom_73 (by decide) ?_
        subst hQ
        have hP9 := hP.sub (ws' := (wd_1ad0248d h0 h1 h3 v0 h1 h2 v1 x20 x21 x22 h2 g0 f5 h3 g1 f6)) [0, 1, 2, 3] rfl
        have hD9 := hD.sub (ws' := (wd_1ad0248d h0 h1 h3 v0 h1 h2 v1 x20 x21 x22 h2 g0 f5 h3 g1 f6)) [0, 1, 2, 3] (by decide) rfl
        have hK9 := hK.sub (tys' := []) [] rfl
        exact W.zret (v := 0) hx hb hr rfl (fun t ht hW => ⟨⟨0, (), rfl, ⟨by first | omega | decide, by first | omega | decide⟩, v0, x20, x21, x22, f6, by first | omega | decide, by first | omega | decide, by rw [ht]; exact hP9, va_K.moved hW.alike hK9, hD9⟩, hS.F ht⟩) hS.2.2 dX3_readAtom_74
  · skip
    have fc3 : ra1.toInt = 91 := congrArg Int32.toInt c3
    refine lv_iload_n hx hb dX3_readAtom_14 rfl (lv_at hl 2 rfl) ?_
    refine lv_bipush (v := 6) hx hb dX3_readAtom_15 (by decide) ?_
    refine lv_icmp_ge (tgt := 55) hx hb dX3_readAtom_17 (by decide) (fun c => absurd c (by decide)) (fun _ => ?_)
    refine lv_aload_n hx hb dX3_readAtom_20 rfl (lv_at hl 1 rfl) ?_
    refine va_get (D := (dC, dI)) (ci := 3) (v := .ref h1) (C := RX3) (T := TX3) (N := 3) hx hb hts (fun _ h => List.mem_cons_of_mem _ (List.mem_append_left _ (List.mem_append_right _ h))) hown hK hP 0 rfl rfl 0 (by decide) (hts (.fieldLink RX3 19 "LeftArguments$LawReader" "tape" "LLeftArguments$Tape;") (List.mem_cons_of_mem _ (List.mem_append_left _ (List.mem_append_left _ (List.mem_of_getElem? (i := 0) rfl))))) (fun _ h9 => h9) rfl dX3_readAtom_21 ?_
    have hPc := hP.sub (ws' := (wd_09b0abee h1 h2 v1 x2 v3 v4)) [1] rfl
    have hDc := hD.sub (ws' := (wd_09b0abee h1 h2 v1 x2 v3 v4)) [1] (by decide) rfl
    have hKc := hK.sub (tys' := []) [] rfl
    have hFc := va_free (wc := (wd_09b0abee h1 h2 v1 x2 v3 v4)) hD hS hA [1] rfl
    refine va_callv (va_runV (As := []) (rest := []) ⟨hx, hb, hml, hown, hts⟩ (k_X10_step l dC dI h1 h2 v1 x2 v3 v4 ⟨by first | omega | decide, by first | omega | decide⟩ H.size) (cwV 0 hts g_X3_readAtom_2_2 rfl rfl rfl (by decide +kernel) ⟨Nat.le_of_ble_eq_true rfl, Nat.le_of_ble_eq_true rfl⟩) ⟨fun a U g mk q => by obtain ⟨q0, q1, qP, qK, qD⟩ := q; exact ⟨q0, q1, qP, va_K.moved (u := U) (U := U.calling g mk a) (Vm.Alike.refl U.vm) qK, qD⟩, va_recv hKc hPc (ci := 10) (q0 := 0) rfl rfl, fun U hU hW => ⟨rfl, by rw [hU], by rw [hU]; exact hPc, va_K.moved hW.alike hKc, hDc.weaken (fun _ _ _ _ => trivial)⟩⟩ rfl rfl hl.1 rfl (lv_room (Nat.le_of_ble_eq_true rfl)) dX3_readAtom_24 ⟨Nat.le_of_ble_eq_true rfl, Nat.le_of_ble_eq_true rfl⟩) hS (fun q _ h => hFc q h) hFc (fun u t H1 locs ht hvm hwra28 hB hz1 hk1 hS => ?_)
    obtain ⟨x29, hP1, hK1, hD1⟩ := hB
    rw [ht] at hP1
    obtain ⟨hP, hD⟩ := va_join (wr := (wd_6b0d8e05 h0 h1 h3 v0 h2 g0 f5 h3 g1 f6)) (w1 := (wd_09b0abee h1 h2 v1 x29 v3 v4)) hP hD [1] [0, 2, 3] rfl rfl (by decide) (by decide) hk1 hFc hP1 hD1
    generalize H1 = H at hP hS ⊢
    have hP := hP.sub (ws' := (wd_1ad0248d h0 h1 h3 v0 h1 h2 v1 x29 v3 v4 h2 g0 f5 h3 g1 f6)) [0, 3, 1, 2] rfl
    have hD := hD.sub (ws' := (wd_1ad0248d h0 h1 h3 v0 h1 h2 v1 x29 v3 v4 h2 g0 f5 h3 g1 f6)) [0, 3, 1, 2] (by decide) rfl
    have hP : va_P (dC, dI) vwCl (wd_1ad0248d h0 h1 h3 v0 h1 h2 v1 x29 v3 v4 h2 g0 f5 h3 g1 f6) H := hP
    have hD : va_D A (wd_1ad0248d h0 h1 h3 v0 h1 h2 v1 x29 v3 v4 h2 g0 f5 h3 g1 f6) := hD
    refine lv_aload_n hx hb dX3_readAtom_27 rfl (lv_at hl 1 rfl) ?_
    refine lv_iload_n hx hb dX3_readAtom_28 rfl (lv_at hl 2 rfl) ?_
    refine lv_iconst (v := 1) hx hb dX3_readAtom_29 (by decide) ?_
    refine lv_iadd hx hb dX3_readAtom_30 ?_
    refine lv_topi (fun tv30 etv30 => ?_)
    obtain rfl : tv30 = (5 : Int32) := etv30.trans (by first | rfl | decide)
    have hPc := hP.sub (ws' := (wd_1ad0248d h0 h1 h3 v0 h1 h2 v1 x29 v3 v4 h2 g0 f5 h3 g1 f6)) [0, 1, 2, 3] rfl
    have hDc := hD.sub (ws' := (wd_1ad0248d h0 h1 h3 v0 h1 h2 v1 x29 v3 v4 h2 g0 f5 h3 g1 f6)) [0, 1, 2, 3] (by decide) rfl
    have hKc := hK.sub (tys' := [(g0, .int), (g1, .int)]) [0, 1] rfl
    have hFc := va_free (wc := (wd_1ad0248d h0 h1 h3 v0 h1 h2 v1 x29 v3 v4 h2 g0 f5 h3 g1 f6)) hD hS hA [0, 1, 2, 3] rfl
    refine va_calli (va_runV (As := [.int 5]) (rest := []) ⟨hx, hb, hml, hown, hts⟩ (k_X3_readSum_1 l dC dI adK adV h0 h1 h2 h3 v0 v1 x29 v3 v4 g0 f5 g1 f6 ⟨by first | omega | decide, by first | omega | decide⟩ ⟨by first | omega | decide, by first | omega | decide⟩ H.size) (cwV 1 hts g_X3_readAtom_2_10 rfl rfl rfl (by decide +kernel) ⟨Nat.le_of_ble_eq_true rfl, Nat.le_of_ble_eq_true rfl⟩) ⟨fun a U g mk q => by obtain ⟨q0, q1, qP, qK, qD, n0, n1, n2⟩ := q; exact ⟨q0, q1, qP, va_K.moved (u := U) (U := U.calling g mk a) (Vm.Alike.refl U.vm) qK, qD, vk_R.same rfl n0, va_Z.moved (Vm.Alike.refl _) n1, vk_S.moved (Vm.Alike.refl _) n2⟩, va_recv hKc hPc (ci := 3) (q0 := 0) rfl rfl, fun U hU hW => ⟨rfl, by rw [hU], by rw [hU]; exact hPc, va_K.moved hW.alike hKc, hDc.weaken (fun _ _ _ _ => trivial), vk_R.warm hW h_vr_2, (by rw [hU]; exact (va_Z.moved hW.alike (va_Z.kept h_st_CS hS.2.1)).narrow hFc), (by rw [hU]; exact (vk_S.moved hW.alike (vk_S.kept h_st_S hS.2.1)).narrow hFc)⟩⟩ rfl rfl hl.1 rfl (lv_room (Nat.le_of_ble_eq_true rfl)) dX3_readAtom_31 ⟨Nat.le_of_ble_eq_true rfl, Nat.le_of_ble_eq_true rfl⟩) hS (fun q _ h => hFc q h) hFc (fun ra31 u t H1 locs ht hvm hwra31 hB hz1 hk1 hS => ?_)
    obtain ⟨x32, x33, x34, x35, fn36, oa_x32, ob_x32, hP1, hK1, hD1⟩ := hB
    rw [ht] at hP1
    obtain ⟨hP, hD⟩ := va_join (wr := []) (w1 := (wd_1ad0248d h0 h1 h3 x32 h1 h2 v1 x33 x34 x35 h2 g0 f5 h3 g1 fn36)) hP hD [0, 1, 2, 3] [] rfl rfl (by decide) (by decide) hk1 hFc hP1 hD1
    generalize H1 = H at hP hS ⊢
    have hP : va_P (dC, dI) vwCl (wd_1ad0248d h0 h1 h3 x32 h1 h2 v1 x33 x34 x35 h2 g0 f5 h3 g1 fn36) H := hP
    have hD : va_D A (wd_1ad0248d h0 h1 h3 x32 h1 h2 v1 x33 x34 x35 h2 g0 f5 h3 g1 fn36) := hD
    obtain ⟨wa_ra31, wb_ra31⟩ := hwra31
    have wa_ra31 : 0 ≤ ra31.toInt := wa_ra31
    have wb_ra31 : ra31.toInt ≤ 1 := wb_ra31
    have hJ40 : ∀ (x37 : Int32) (x38 : Int32) (x39 : Int32) (H : Heap) (locs : List Loc) (ls : Array Slot), 0 ≤ x37.toInt → x37.toInt ≤ 1 → va_P (dC, dI) vwCl (wd_1ad0248d h0 h1 h3 x32 h1 h2 v1 x38 x39 x35 h2 g0 f5 h3 g1 fn36) H → va_D A (wd_1ad0248d h0 h1 h3 x32 h1 h2 v1 x38 x39 x35 h2 g0 f5 h3 g1 fn36) → va_S A s.heap H locs → lv_has ls 4 [(2, .int ra1), (0, .ref h0), (1, .int 4)] → W p l e ({ frames := 10, cells := 0, slots := 0, locals := 229 }) s m ([.ref h0, .int 4] : List Value).toArray below meth c H locs 0 0 Q (F0 m 54 ls [.int x37]) := by
      intro x37 x38 x39 H locs ls qa_x37 qb_x37 hP hD hS hl
      subst hQ
      have hP9 := hP.sub (ws' := (wd_1ad0248d h0 h1 h3 x32 h1 h2 v1 x38 x39 x35 h2 g0 f5 h3 g1 fn36)) [0, 1, 2, 3] rfl
      have hD9 := hD.sub (ws' := (wd_1ad0248d h0 h1 h3 x32 h1 h2 v1 x38 x39 x35 h2 g0 f5 h3 g1 fn36)) [0, 1, 2, 3] (by decide) rfl
      have hK9 := hK.sub (tys' := []) [] rfl
      exact W.zret (v := x37) hx hb hr (pv_nz (by omega) (by omega)) (fun t ht hW => ⟨⟨x37, (), rfl, ⟨by first | omega | decide, by first | omega | decide⟩, x32, x38, x39, x35, fn36, by first | omega | decide, by first | omega | decide, by rw [ht]; exact hP9, va_K.moved hW.alike hK9, hD9⟩, hS.F ht⟩) hS.2.2 dX3_readAtom_54
    refine lv_if_eq (tgt := 53) hx hb dX3_readAtom_34 (by decide) (fun c41 => ?_) (fun c41 => ?_)
    · skip
      have fc41 : ra31.toInt = 0 := congrArg Int32.toInt c41
      refine lv_iconst (v := 0) hx hb dX3_readAtom_53 (by decide) ?_
      exact hJ40 0 x33 x34 H locs ls (by first | omega | decide) (by first | omega | decide) hP hD hS (lv_sub hl [0, 1, 2] rfl)
    · skip
      have fc41 : ¬ (ra31.toInt = 0) := fun h9 => c41 (Int32.toInt_inj.mp h9)
      refine lv_aload_n hx hb dX3_readAtom_37 rfl (lv_at hl 1 rfl) ?_
      refine va_get (D := (dC, dI)) (ci := 3) (v := .ref h1) (C := RX3) (T := TX3) (N := 3) hx hb hts (fun _ h => List.mem_cons_of_mem _ (List.mem_append_left _ (List.mem_append_right _ h))) hown hK hP 0 rfl rfl 0 (by decide) (hts (.fieldLink RX3 19 "LeftArguments$LawReader" "tape" "LLeftArguments$Tape;") (List.mem_cons_of_mem _ (List.mem_append_left _ (List.mem_append_left _ (List.mem_of_getElem? (i := 0) rfl))))) (fun _ h9 => h9) rfl dX3_readAtom_38 ?_
      refine lv_bipush (v := 93) hx hb dX3_readAtom_41 (by decide) ?_
      have hPc := hP.sub (ws' := (wd_82cdd16b h1 h2 v1 x33 x34 x35 h2 g0 f5)) [1, 2] rfl
      have hDc := hD.sub (ws' := (wd_82cdd16b h1 h2 v1 x33 x34 x35 h2 g0 f5)) [1, 2] (by decide) rfl
      have hKc := hK.sub (tys' := [(g0, .int)]) [0] rfl
      have hFc := va_free (wc := (wd_82cdd16b h1 h2 v1 x33 x34 x35 h2 g0 f5)) hD hS hA [1, 2] rfl
      refine va_calli (va_runV (As := [.int 93]) (rest := []) ⟨hx, hb, hml, hown, hts⟩ (k_X10_take l dC dI h1 h2 v1 x33 x34 x35 g0 f5 93 ⟨by first | omega | decide, by first | omega | decide⟩ H.size) (cwV 1 hts g_X3_readAtom_2_11 rfl rfl rfl (by decide +kernel) ⟨Nat.le_of_ble_eq_true rfl, Nat.le_of_ble_eq_true rfl⟩) ⟨fun a U g mk q => by obtain ⟨q0, q1, qP, qK, qD⟩ := q; exact ⟨q0, q1, qP, va_K.moved (u := U) (U := U.calling g mk a) (Vm.Alike.refl U.vm) qK, qD⟩, va_recv hKc hPc (ci := 10) (q0 := 0) rfl rfl, fun U hU hW => ⟨rfl, by rw [hU], by rw [hU]; exact hPc, va_K.moved hW.alike hKc, hDc.weaken (fun _ _ _ _ => trivial)⟩⟩ rfl rfl hl.1 rfl (lv_room (Nat.le_of_ble_eq_true rfl)) dX3_readAtom_43 ⟨Nat.le_of_ble_eq_true rfl, Nat.le_of_ble_eq_true rfl⟩) hS (fun q _ h => hFc q h) hFc (fun ra42 u t H1 locs ht hvm hwra42 hB hz1 hk1 hS => ?_)
      obtain ⟨x43, x44, hP1, hK1, hD1⟩ := hB
      rw [ht] at hP1
      obtain ⟨hP, hD⟩ := va_join (wr := (wd_b958b9da h0 h1 h3 x32 h3 g1 fn36)) (w1 := (wd_82cdd16b h1 h2 v1 x43 x44 x35 h2 g0 f5)) hP hD [1, 2] [0, 3] rfl rfl (by decide) (by decide) hk1 hFc hP1 hD1
      generalize H1 = H at hP hS ⊢
      have hP := hP.sub (ws' := (wd_1ad0248d h0 h1 h3 x32 h1 h2 v1 x43 x44 x35 h2 g0 f5 h3 g1 fn36)) [0, 2, 3, 1] rfl
      have hD := hD.sub (ws' := (wd_1ad0248d h0 h1 h3 x32 h1 h2 v1 x43 x44 x35 h2 g0 f5 h3 g1 fn36)) [0, 2, 3, 1] (by decide) rfl
      have hP : va_P (dC, dI) vwCl (wd_1ad0248d h0 h1 h3 x32 h1 h2 v1 x43 x44 x35 h2 g0 f5 h3 g1 fn36) H := hP
      have hD : va_D A (wd_1ad0248d h0 h1 h3 x32 h1 h2 v1 x43 x44 x35 h2 g0 f5 h3 g1 fn36) := hD
      obtain ⟨wa_ra42, wb_ra42⟩ := hwra42
      have wa_ra42 : 0 ≤ ra42.toInt := wa_ra42
      have wb_ra42 : ra42.toInt ≤ 1 := wb_ra42
      refine lv_if_eq (tgt := 53) hx hb dX3_readAtom_46 (by decide) (fun c45 => ?_) (fun c45 => ?_)
      · skip
        have fc45 : ra42.toInt = 0 := congrArg Int32.toInt c45
        refine lv_iconst (v := 0) hx hb dX3_readAtom_53 (by decide) ?_
        exact hJ40 0 x43 x44 H locs ls (by first | omega | decide) (by first | omega | decide) hP hD hS (lv_sub hl [0, 1, 2] rfl)
      · skip
        have fc45 : ¬ (ra42.toInt = 0) := fun h9 => c45 (Int32.toInt_inj.mp h9)
        refine lv_iconst (v := 1) hx hb dX3_readAtom_49 (by decide) ?_
        refine lv_goto (tgt := 54) hx hb dX3_readAtom_50 (by decide) ?_
        exact hJ40 1 x43 x44 H locs ls (by first | omega | decide) (by first | omega | decide) hP hD hS (lv_sub hl [0, 1, 2] rfl)
def q_X3_readTerm_2 : List Cond := .code yX3_readTerm cX3_readTerm 4 (some .boolean) :: (([.code yX3_readAtom cX3_readAtom 4 (some .boolean), .fieldLink RX3 19 "LeftArguments$LawReader" "tape" "LLeftArguments$Tape;", .code yX10_next cX10_next 1 (some .int), .fieldLink RX10 19 "LeftArguments$Tape" "at" "I", .fieldLink RX10 15 "LeftArguments$Tape" "used" "I", .fieldLink RX10 9 "LeftArguments$Tape" "bytes" "[I", .initialized RX10, .instanceMethod yX10_next, .selects RX10 yX10_next yX10_next, .methodLink RX3 48 yX10_next, .code yX10_isDigit cX10_isDigit 1 (some .boolean), .static yX10_isDigit, .methodLink RX3 92 yX10_isDigit, .code yX10_step cX10_step 1 none, .instanceMethod yX10_step, .selects RX10 yX10_step yX10_step, .methodLink RX3 77 yX10_step, .code yX3_write cX3_write 3 none, .fieldLink RX3 15 "LeftArguments$LawReader" "used" "I", .fieldLink RX3 11 "LeftArguments$LawReader" "code" "[I", .initialized RX3, .instanceMethod yX3_write, .selects RX3 yX3_write yX3_write, .methodLink RX3 66 yX3_write, .code yX10_wrongHere cX10_wrongHere 1 (some .boolean), .fieldLink RX10 22 "LeftArguments$Tape" "wrongAt" "I", .instanceMethod yX10_wrongHere, .selects RX10 yX10_wrongHere yX10_wrongHere, .methodLink RX3 83 yX10_wrongHere, .code yJ0_indexOf_0f7a4 cJ0_indexOf_0f7a4 2 (some .int), .code yJ0_indexOf_7cf53 cJ0_indexOf_7cf53 3 (some .int), .code yJ0_isLatin1_aae02 cJ0_isLatin1_aae02 1 (some .boolean), .fieldLink RJ0 38 "java/lang/String" "COMPACT_STRINGS" "Z", .fieldLink RJ0 15 "java/lang/String" "coder" "B", .initialized RJ0, .instanceMethod yJ0_isLatin1_aae02, .selects RJ0 yJ0_isLatin1_aae02 yJ0_isLatin1_aae02, .methodLink RJ0 492 yJ0_isLatin1_aae02, .fieldLink RJ0 9 "java/lang/String" "value" "[B", .code yJ0_length_8abf5 cJ0_length_8abf5 1 (some .int), .code yJ0_coder_7d493 cJ0_coder_7d493 1 (some .byte), .instanceMethod yJ0_coder_7d493, .selects RJ0 yJ0_coder_7d493 yJ0_coder_7d493, .methodLink RJ0 335 yJ0_coder_7d493, .instanceMethod yJ0_length_8abf5, .selects RJ0 yJ0_length_8abf5 yJ0_length_8abf5, .methodLink RJ0 505 yJ0_length_8abf5, .code yJ1_indexOf_4cfef cJ1_indexOf_4cfef 4 (some .int), .code yJ1_canEncode_9a6ad cJ1_canEncode_9a6ad 1 (some .boolean), .initialized RJ1, .static yJ1_canEncode_9a6ad, .methodLink RJ1 88 yJ1_canEncode_9a6ad, .methodLink RJ1 92 Lib.Math.max.name, .static Lib.Math.max.name, .initialized "java/lang/Math", .code Lib.Math.max.name Lib.Math.max.code 2 (some .int), .methodLink RJ1 38 Lib.Math.min.name, .static Lib.Math.min.name, .code Lib.Math.min.name Lib.Math.min.code 2 (some .int), .code yJ1_indexOfChar_4cfef cJ1_indexOfChar_4cfef 6 (some .int), .static yJ1_indexOfChar_4cfef, .methodLink RJ1 95 yJ1_indexOfChar_4cfef, .static yJ1_indexOf_4cfef, .methodLink RJ0 637 yJ1_indexOf_4cfef, .instanceMethod yJ0_indexOf_7cf53, .selects RJ0 yJ0_indexOf_7cf53 yJ0_indexOf_7cf53, .methodLink RJ0 633 yJ0_indexOf_7cf53, .instanceMethod yJ0_indexOf_0f7a4, .selects RJ0 yJ0_indexOf_0f7a4 yJ0_indexOf_0f7a4, .methodLink RX3 103 yJ0_indexOf_0f7a4, .code yX10_takeNumber cX10_takeNumber 3 (some .boolean), .methodLink RX10 37 yX10_next, .methodLink RX10 45 yX10_isDigit, .fieldLink RX10 25 "LeftArguments$Tape" "number" "I", .code yX10_sign cX10_sign 1 (some .int), .instanceMethod yX10_sign, .selects RX10 yX10_sign yX10_sign, .methodLink RX10 49 yX10_sign, .methodLink RX10 41 yX10_wrongHere, .instanceMethod yX10_takeNumber, .selects RX10 yX10_takeNumber yX10_takeNumber, .methodLink RX3 95 yX10_takeNumber, .code yX10_number cX10_number 1 (some .int), .instanceMethod yX10_number, .selects RX10 yX10_number yX10_number, .methodLink RX3 98 yX10_number, .code yX3_readSum cX3_readSum 4 (some .boolean), .code yX3_readTerm cX3_readTerm 4 (some .boolean), .instanceMethod yX3_readAtom, .selects RX3 yX3_readAtom yX3_readAtom, .methodLink RX3 89 yX3_readAtom, .instanceMethod yX3_readTerm, .selects RX3 yX3_readTerm yX3_readTerm, .methodLink RX3 86 yX3_readTerm, .instanceMethod yX3_readSum, .selects RX3 yX3_readSum yX3_readSum, .methodLink RX3 59 yX3_readSum, .code yX10_take cX10_take 2 (some .boolean), .instanceMethod yX10_take, .selects RX10 yX10_take yX10_take, .methodLink RX3 51 yX10_take] : List Cond) ++ wsX30 ++ wsX100)
set_option maxRecDepth 20000 in
theorem g_X3_readTerm_2_0 : GoodIn q_X3_readTerm_2 (wsV RX3 89 RX3 yX3_readAtom q_X3_readAtom_2) := goodIn_app (goodIn_r _ [91, 89, 90, 21] rfl (by decide +kernel)) (goodIn_ca (goodIn_ca (goodIn_r (.code yX3_readAtom cX3_readAtom 4 (some .boolean) :: [.fieldLink RX3 19 "LeftArguments$LawReader" "tape" "LLeftArguments$Tape;", .code yX10_next cX10_next 1 (some .int), .fieldLink RX10 19 "LeftArguments$Tape" "at" "I", .fieldLink RX10 15 "LeftArguments$Tape" "used" "I", .fieldLink RX10 9 "LeftArguments$Tape" "bytes" "[I", .initialized RX10, .instanceMethod yX10_next, .selects RX10 yX10_next yX10_next, .methodLink RX3 48 yX10_next, .code yX10_isDigit cX10_isDigit 1 (some .boolean), .static yX10_isDigit, .methodLink RX3 92 yX10_isDigit, .code yX10_step cX10_step 1 none, .instanceMethod yX10_step, .selects RX10 yX10_step yX10_step, .methodLink RX3 77 yX10_step, .code yX3_write cX3_write 3 none, .fieldLink RX3 15 "LeftArguments$LawReader" "used" "I", .fieldLink RX3 11 "LeftArguments$LawReader" "code" "[I", .initialized RX3, .instanceMethod yX3_write, .selects RX3 yX3_write yX3_write, .methodLink RX3 66 yX3_write, .code yX10_wrongHere cX10_wrongHere 1 (some .boolean), .fieldLink RX10 22 "LeftArguments$Tape" "wrongAt" "I", .instanceMethod yX10_wrongHere, .selects RX10 yX10_wrongHere yX10_wrongHere, .methodLink RX3 83 yX10_wrongHere, .code yJ0_indexOf_0f7a4 cJ0_indexOf_0f7a4 2 (some .int), .code yJ0_indexOf_7cf53 cJ0_indexOf_7cf53 3 (some .int), .code yJ0_isLatin1_aae02 cJ0_isLatin1_aae02 1 (some .boolean), .fieldLink RJ0 38 "java/lang/String" "COMPACT_STRINGS" "Z", .fieldLink RJ0 15 "java/lang/String" "coder" "B", .initialized RJ0, .instanceMethod yJ0_isLatin1_aae02, .selects RJ0 yJ0_isLatin1_aae02 yJ0_isLatin1_aae02, .methodLink RJ0 492 yJ0_isLatin1_aae02, .fieldLink RJ0 9 "java/lang/String" "value" "[B", .code yJ0_length_8abf5 cJ0_length_8abf5 1 (some .int), .code yJ0_coder_7d493 cJ0_coder_7d493 1 (some .byte), .instanceMethod yJ0_coder_7d493, .selects RJ0 yJ0_coder_7d493 yJ0_coder_7d493, .methodLink RJ0 335 yJ0_coder_7d493, .instanceMethod yJ0_length_8abf5, .selects RJ0 yJ0_length_8abf5 yJ0_length_8abf5, .methodLink RJ0 505 yJ0_length_8abf5, .code yJ1_indexOf_4cfef cJ1_indexOf_4cfef 4 (some .int), .code yJ1_canEncode_9a6ad cJ1_canEncode_9a6ad 1 (some .boolean), .initialized RJ1, .static yJ1_canEncode_9a6ad, .methodLink RJ1 88 yJ1_canEncode_9a6ad, .methodLink RJ1 92 Lib.Math.max.name, .static Lib.Math.max.name, .initialized "java/lang/Math", .code Lib.Math.max.name Lib.Math.max.code 2 (some .int), .methodLink RJ1 38 Lib.Math.min.name, .static Lib.Math.min.name, .code Lib.Math.min.name Lib.Math.min.code 2 (some .int), .code yJ1_indexOfChar_4cfef cJ1_indexOfChar_4cfef 6 (some .int), .static yJ1_indexOfChar_4cfef, .methodLink RJ1 95 yJ1_indexOfChar_4cfef, .static yJ1_indexOf_4cfef, .methodLink RJ0 637 yJ1_indexOf_4cfef, .instanceMethod yJ0_indexOf_7cf53, .selects RJ0 yJ0_indexOf_7cf53 yJ0_indexOf_7cf53, .methodLink RJ0 633 yJ0_indexOf_7cf53, .instanceMethod yJ0_indexOf_0f7a4, .selects RJ0 yJ0_indexOf_0f7a4 yJ0_indexOf_0f7a4, .methodLink RX3 103 yJ0_indexOf_0f7a4, .code yX10_takeNumber cX10_takeNumber 3 (some .boolean), .methodLink RX10 37 yX10_next, .methodLink RX10 45 yX10_isDigit, .fieldLink RX10 25 "LeftArguments$Tape" "number" "I", .code yX10_sign cX10_sign 1 (some .int), .instanceMethod yX10_sign, .selects RX10 yX10_sign yX10_sign, .methodLink RX10 49 yX10_sign, .methodLink RX10 41 yX10_wrongHere, .instanceMethod yX10_takeNumber, .selects RX10 yX10_takeNumber yX10_takeNumber, .methodLink RX3 95 yX10_takeNumber, .code yX10_number cX10_number 1 (some .int), .instanceMethod yX10_number, .selects RX10 yX10_number yX10_number, .methodLink RX3 98 yX10_number, .code yX3_readSum cX3_readSum 4 (some .boolean), .code yX3_readTerm cX3_readTerm 4 (some .boolean), .code yX3_readAtom cX3_readAtom 4 (some .boolean), .instanceMethod yX3_readAtom, .selects RX3 yX3_readAtom yX3_readAtom, .methodLink RX3 89 yX3_readAtom, .instanceMethod yX3_readTerm, .selects RX3 yX3_readTerm yX3_readTerm, .methodLink RX3 86 yX3_readTerm, .instanceMethod yX3_readSum, .selects RX3 yX3_readSum yX3_readSum, .methodLink RX3 59 yX3_readSum, .code yX10_take cX10_take 2 (some .boolean), .instanceMethod yX10_take, .selects RX10 yX10_take yX10_take, .methodLink RX3 51 yX10_take]) [1, 2, 3, 4, 5, 6, 7, 8, 9, 10, 11, 12, 13, 14, 15, 16, 17, 18, 19, 20, 21, 22, 23, 24, 25, 26, 27, 28, 29, 30, 31, 32, 33, 34, 35, 36, 37, 38, 39, 40, 41, 42, 43, 44, 45, 46, 47, 48, 49, 50, 51, 52, 53, 54, 55, 56, 57, 58, 59, 60, 61, 62, 63, 64, 65, 66, 67, 68, 69, 70, 71, 72, 73, 74, 75, 76, 77, 78, 79, 80, 81, 82, 83, 84, 85, 86, 87, 88, 1, 89, 90, 91, 92, 93, 94, 95, 96, 97, 98, 99, 100, 101] rfl (by decide +kernel)) (goodIn_sub (fun _ h => List.mem_cons_of_mem _ (List.mem_append_left _ (List.mem_append_right _ h))) gwX3)) (goodIn_sub (fun _ h => List.mem_cons_of_mem _ (List.mem_append_right _ h)) gwX10))
set_option maxRecDepth 20000 in
theorem g_X3_readTerm_2_1 : GoodIn q_X3_readTerm_2 (wsV RX3 48 RX10 yX10_next q_X10_next) := goodIn_app (goodIn_r _ [10, 8, 9, 7] rfl (by decide +kernel)) (goodIn_ca (goodIn_r (.code yX10_next cX10_next 1 (some .int) :: [.fieldLink RX10 19 "LeftArguments$Tape" "at" "I", .fieldLink RX10 15 "LeftArguments$Tape" "used" "I", .fieldLink RX10 9 "LeftArguments$Tape" "bytes" "[I"]) [3, 4, 5, 6] rfl (by decide +kernel)) (goodIn_sub (fun _ h => List.mem_cons_of_mem _ (List.mem_append_right _ h)) gwX10))
set_option maxRecDepth 20000 in
theorem g_X3_readTerm_2_2 : GoodIn q_X3_readTerm_2 (wsV RX3 77 RX10 yX10_step q_X10_step) := goodIn_app (goodIn_r _ [17, 15, 16, 7] rfl (by decide +kernel)) (goodIn_ca (goodIn_r (.code yX10_step cX10_step 1 none :: [.fieldLink RX10 19 "LeftArguments$Tape" "at" "I"]) [14, 4] rfl (by decide +kernel)) (goodIn_sub (fun _ h => List.mem_cons_of_mem _ (List.mem_append_right _ h)) gwX10))
set_option maxRecDepth 20000 in
theorem g_X3_readTerm_2_4 : GoodIn q_X3_readTerm_2 (wsV RX3 66 RX3 yX3_write q_X3_write) := goodIn_app (goodIn_r _ [24, 22, 23, 21] rfl (by decide +kernel)) (goodIn_ca (goodIn_r (.code yX3_write cX3_write 3 none :: [.fieldLink RX3 15 "LeftArguments$LawReader" "used" "I", .fieldLink RX3 11 "LeftArguments$LawReader" "code" "[I"]) [18, 19, 20] rfl (by decide +kernel)) (goodIn_sub (fun _ h => List.mem_cons_of_mem _ (List.mem_append_left _ (List.mem_append_right _ h))) gwX3))
set_option maxHeartbeats 4000000 in
set_option maxRecDepth 100000 in
theorem k_X3_readTerm_2 (l : Launch) (dC : Nat → ClassId) (dI : Nat → Nat → Nat) (adK : Nat → Nat) (adV : Nat → Nat) (h0 : Nat) (h1 : Nat) (h2 : Nat) (h3 : Nat) (v0 : Int32) (v1 : Int32) (v2 : Int32) (v3 : Int32) (v4 : Int32) (g0 : ClassId) (f5 : Nat → Int32) (g1 : ClassId) (f6 : Nat → Int32) (i_v0 : 0 ≤ v0.toInt ∧ v0.toInt ≤ 256) (i_v1 : 0 ≤ v1.toInt ∧ v1.toInt ≤ 240) (sz : Nat) : Met l yX3_readTerm q_X3_readTerm_2 ({ frames := 11, cells := 0, slots := 0, locals := 252 }) (va_Pc [.ref h0, .int 4] (fun U => U.heap.size = sz ∧ va_P (dC, dI) vwCl (wd_1ad0248d h0 h1 h3 v0 h1 h2 v1 v2 v3 v4 h2 g0 f5 h3 g1 f6) U.heap ∧ va_K (dC, dI) vwCl [(g0, .int), (g1, .int)] U ∧ va_D (fun _ => True) (wd_1ad0248d h0 h1 h3 v0 h1 h2 v1 v2 v3 v4 h2 g0 f5 h3 g1 f6) ∧ vk_R RX3 101 "zaondt" (adK 2) U ∧ va_Z "java/lang/String" "COMPACT_STRINGS" "Z" (.int 1) (va_A (wd_1ad0248d h0 h1 h3 v0 h1 h2 v1 v2 v3 v4 h2 g0 f5 h3 g1 f6) sz) U U.heap ∧ vk_S 3 pv_len3 pv_byt3 adK adV (va_A (wd_1ad0248d h0 h1 h3 v0 h1 h2 v1 v2 v3 v4 h2 g0 f5 h3 g1 f6) sz) U U.heap)) (va_Qi (fun (r : Int32) (_ : Unit) => 0 ≤ r.toInt ∧ r.toInt ≤ 1) (fun (_ : Unit) (t : State) => ∃ (o_h0_2 : Int32) (o_h1_2 : Int32) (o_h1_3 : Int32) (o_h1_4 : Int32) (o_h3 : Nat → Int32), 0 ≤ o_h0_2.toInt ∧ o_h0_2.toInt ≤ 256 ∧ va_P (dC, dI) vwCl (wd_1ad0248d h0 h1 h3 o_h0_2 h1 h2 v1 o_h1_2 o_h1_3 o_h1_4 h2 g0 f5 h3 g1 o_h3) t.heap ∧ va_K (dC, dI) vwCl [] t ∧ va_D (va_A (wd_1ad0248d h0 h1 h3 v0 h1 h2 v1 v2 v3 v4 h2 g0 f5 h3 g1 f6) sz) (wd_1ad0248d h0 h1 h3 o_h0_2 h1 h2 v1 o_h1_2 o_h1_3 o_h1_4 h2 g0 f5 h3 g1 o_h3)) (va_A (wd_1ad0248d h0 h1 h3 v0 h1 h2 v1 v2 v3 v4 h2 g0 f5 h3 g1 f6) sz)) 0 0 (va_A (wd_1ad0248d h0 h1 h3 v0 h1 h2 v1 v2 v3 v4 h2 g0 f5 h3 g1 f6) sz) := by
  refine Met.ofW (cc := cX3_readTerm) (maxL := 4) (ret := (some .boolean)) (by decide) rfl ?_
  intro p e s m args below meth c s₁ B hml hv
  obtain ⟨i_v0a, i_v0b⟩ := i_v0
  obtain ⟨i_v1a, i_v1b⟩ := i_v1
  obtain ⟨rfl, hsz, hP, hK, hD0, h_vr_2, h_st_CS, h_st_S⟩ := hv
  have hx := B.exec
  have hb := B.bytes
  have hr := B.returns
  have hts := atoms_spec (ws := q_X3_readTerm_2) B.pre
  have hown : s.vm.findClass RX3 = some m.cls := findClass_of_methodNamed B.named
  have hlocks := B.notSynchronized
  subst hsz
  have hD := hD0.self (sz := s.heap.size)
  generalize hAe : va_A (wd_1ad0248d h0 h1 h3 v0 h1 h2 v1 v2 v3 v4 h2 g0 f5 h3 g1 f6) s.heap.size = A at hD h_st_CS h_st_S ⊢
  have hA : ∀ q : Nat, s.heap.size ≤ q → A q := fun q h => by rw [← hAe]; exact Or.inr h
  have hS : va_S A s.heap s.heap [] := va_S.rf
  generalize hQ : (MQ below _ _ s 0 0 A) = Q
  have hl := lv_entry ([.ref h0, .int 4]) (n := 4) (Nat.le_of_ble_eq_true rfl)
  rw [lg_entry_eq]
  generalize (lg_sl ([.ref h0, .int 4]) ++ List.replicate (4 - (lg_sl ([.ref h0, .int 4])).length) Slot.unset).toArray = ls at hl ⊢
  have hl : lv_has ls 4 [(0, .ref h0), (1, .int 4)] := hl
  obtain ⟨H, hH⟩ : ∃ H : Heap, H = s.heap := ⟨_, rfl⟩
  obtain ⟨locs, hlocs⟩ : ∃ y : List Loc, y = [] := ⟨_, rfl⟩
  have hS : va_S A s.heap H locs := by rw [hH, hlocs]; exact va_S.rf
  have hP : va_P (dC, dI) vwCl (wd_1ad0248d h0 h1 h3 v0 h1 h2 v1 v2 v3 v4 h2 g0 f5 h3 g1 f6) H := by rw [hH]; exact hP
  rw [← hH, ← hlocs]
  refine lv_aload_n hx hb dX3_readTerm_0 rfl (lv_at hl 0 rfl) ?_
  refine lv_iload_n hx hb dX3_readTerm_1 rfl (lv_at hl 1 rfl) ?_
  have hPc := hP.sub (ws' := (wd_1ad0248d h0 h1 h3 v0 h1 h2 v1 v2 v3 v4 h2 g0 f5 h3 g1 f6)) [0, 1, 2, 3] rfl
  have hDc := hD.sub (ws' := (wd_1ad0248d h0 h1 h3 v0 h1 h2 v1 v2 v3 v4 h2 g0 f5 h3 g1 f6)) [0, 1, 2, 3] (by decide) rfl
  have hKc := hK.sub (tys' := [(g0, .int), (g1, .int)]) [0, 1] rfl
  have hFc := va_free (wc := (wd_1ad0248d h0 h1 h3 v0 h1 h2 v1 v2 v3 v4 h2 g0 f5 h3 g1 f6)) hD hS hA [0, 1, 2, 3] rfl
  refine va_calli (va_runV (As := [.int 4]) (rest := []) ⟨hx, hb, hml, hown, hts⟩ (k_X3_readAtom_2 l dC dI adK adV h0 h1 h2 h3 v0 v1 v2 v3 v4 g0 f5 g1 f6 ⟨by first | omega | decide, by first | omega | decide⟩ ⟨by first | omega | decide, by first | omega | decide⟩ H.size) (cwV 1 hts g_X3_readTerm_2_0 rfl rfl rfl (by decide +kernel) ⟨Nat.le_of_ble_eq_true rfl, Nat.le_of_ble_eq_true rfl⟩) ⟨fun a U g mk q => by obtain ⟨q0, q1, qP, qK, qD, n0, n1, n2⟩ := q; exact ⟨q0, q1, qP, va_K.moved (u := U) (U := U.calling g mk a) (Vm.Alike.refl U.vm) qK, qD, vk_R.same rfl n0, va_Z.moved (Vm.Alike.refl _) n1, vk_S.moved (Vm.Alike.refl _) n2⟩, va_recv hKc hPc (ci := 3) (q0 := 0) rfl rfl, fun U hU hW => ⟨rfl, by rw [hU], by rw [hU]; exact hPc, va_K.moved hW.alike hKc, hDc.weaken (fun _ _ _ _ => trivial), vk_R.warm hW h_vr_2, (by rw [hU]; exact (va_Z.moved hW.alike (va_Z.kept h_st_CS hS.2.1)).narrow hFc), (by rw [hU]; exact (vk_S.moved hW.alike (vk_S.kept h_st_S hS.2.1)).narrow hFc)⟩⟩ rfl rfl hl.1 rfl (lv_room (Nat.le_of_ble_eq_true rfl)) dX3_readTerm_2 ⟨Nat.le_of_ble_eq_true rfl, Nat.le_of_ble_eq_true rfl⟩) hS (fun q _ h => hFc q h) hFc (fun ra1 u t H1 locs ht hvm hwra1 hB hz1 hk1 hS => ?_)
  obtain ⟨x2, x3, x4, x5, fn6, oa_x2, ob_x2, hP1, hK1, hD1⟩ := hB
  rw [ht] at hP1
  obtain ⟨hP, hD⟩ := va_join (wr := []) (w1 := (wd_1ad0248d h0 h1 h3 x2 h1 h2 v1 x3 x4 x5 h2 g0 f5 h3 g1 fn6)) hP hD [0, 1, 2, 3] [] rfl rfl (by decide) (by decide) hk1 hFc hP1 hD1
  generalize H1 = H at hP hS ⊢
  have hP : va_P (dC, dI) vwCl (wd_1ad0248d h0 h1 h3 x2 h1 h2 v1 x3 x4 x5 h2 g0 f5 h3 g1 fn6) H := hP
  have hD : va_D A (wd_1ad0248d h0 h1 h3 x2 h1 h2 v1 x3 x4 x5 h2 g0 f5 h3 g1 fn6) := hD
  obtain ⟨wa_ra1, wb_ra1⟩ := hwra1
  have wa_ra1 : 0 ≤ ra1.toInt := wa_ra1
  have wb_ra1 : ra1.toInt ≤ 1 := wb_ra1
  refine lv_if_ne (tgt := 10) hx hb dX3_readTerm_5 (by decide) (fun c7 => ?_) (fun c7 => ?_)
  · skip
    have fc7 : ¬ (ra1.toInt = 0) := fun h9 => c7 (Int32.toInt_inj.mp h9)
    refine lv_iconst (v := 0) hx hb dX3_readTerm_10 (by decide) ?_
    refine lv_istore_n (lv' := [(2, .int 0), (0, .ref h0), (1, .int 4)]) hx hb dX3_readTerm_11 rfl hl (by decide) rfl (fun ls hl => ?_)
    have hL122 : ∀ (n9 : Nat), ∀ (x110 : Int32) (x111 : Int32) (x112 : Int32) (x113 : Int32) (x114 : Int32) (fn115 : Nat → Int32) (H : Heap) (locs : List Loc) (ls : Array Slot), 0 ≤ x110.toInt → x110.toInt ≤ 240 → 0 ≤ x111.toInt → x111.toInt ≤ 256 → (240 - x110.toInt).toNat < n9 → va_P (dC, dI) vwCl (wd_1ad0248d h0 h1 h3 x111 h1 h2 v1 x112 x113 x114 h2 g0 f5 h3 g1 fn115) H → va_D A (wd_1ad0248d h0 h1 h3 x111 h1 h2 v1 x112 x113 x114 h2 g0 f5 h3 g1 fn115) → va_S A s.heap H locs → lv_has ls 4 [(2, .int x110), (0, .ref h0), (1, .int 4)] → W p l e ({ frames := 11, cells := 0, slots := 0, locals := 252 }) s m ([.ref h0, .int 4] : List Value).toArray below meth c H locs 0 0 Q (F0 m 12 ls []) := by
      intro n9
      induction n9 with
      | zero => intro x110 x111 x112 x113 x114 fn115 H locs ls qa_x110 qb_x110 qa_x111 qb_x111 hm9 hP hD hS hl; exact absurd hm9 (Nat.not_lt_zero _)
      | succ n9 ih_hL122 =>
        intro x110 x111 x112 x113 x114 fn115 H locs ls qa_x110 qb_x110 qa_x111 qb_x111 hm9 hP hD hS hl
        refine lv_iload_n hx hb dX3_readTerm_12 rfl (lv_at hl 0 rfl) ?_
        refine lv_sipush (v := 240) hx hb dX3_readTerm_13 (by decide) ?_
        refine lv_icmp_ge (tgt := 80) hx hb dX3_readTerm_16 (by decide) (fun c123 => ?_) (fun c123 => ?_)
        · skip
          have fc123 : 240 ≤ x110.toInt := Int32.le_iff_toInt_le.mp c123
          refine lv_iconst (v := 1) hx hb dX3_readTerm_80 (by decide) ?_
          subst hQ
          have hP9 := hP.sub (ws' := (wd_1ad0248d h0 h1 h3 x111 h1 h2 v1 x112 x113 x114 h2 g0 f5 h3 g1 fn115)) [0, 1, 2, 3] rfl
          have hD9 := hD.sub (ws' := (wd_1ad0248d h0 h1 h3 x111 h1 h2 v1 x112 x113 x114 h2 g0 f5 h3 g1 fn115)) [0, 1, 2, 3] (by decide) rfl
          have hK9 := hK.sub (tys' := []) [] rfl
          exact W.zret (v := 1) hx hb hr rfl (fun t ht hW => ⟨⟨1, (), rfl, ⟨by first | omega | decide, by first | omega | decide⟩, x111, x112, x113, x114, fn115, by first | omega | decide, by first | omega | decide, by rw [ht]; exact hP9, va_K.moved hW.alike hK9, hD9⟩, hS.F ht⟩) hS.2.2 dX3_readTerm_81
        · skip
          have fc123 : ¬ (240 ≤ x110.toInt) := fun h9 => c123 (Int32.le_iff_toInt_le.mpr h9)
          refine lv_aload_n hx hb dX3_readTerm_19 rfl (lv_at hl 1 rfl) ?_
          refine va_get (D := (dC, dI)) (ci := 3) (v := .ref h1) (C := RX3) (T := TX3) (N := 3) hx hb hts (fun _ h => List.mem_cons_of_mem _ (List.mem_append_left _ (List.mem_append_right _ h))) hown hK hP 0 rfl rfl 0 (by decide) (hts (.fieldLink RX3 19 "LeftArguments$LawReader" "tape" "LLeftArguments$Tape;") (List.mem_cons_of_mem _ (List.mem_append_left _ (List.mem_append_left _ (List.mem_of_getElem? (i := 1) rfl))))) (fun _ h9 => h9) rfl dX3_readTerm_20 ?_
          have hPc := hP.sub (ws' := (wd_82cdd16b h1 h2 v1 x112 x113 x114 h2 g0 f5)) [1, 2] rfl
          have hDc := hD.sub (ws' := (wd_82cdd16b h1 h2 v1 x112 x113 x114 h2 g0 f5)) [1, 2] (by decide) rfl
          have hKc := hK.sub (tys' := [(g0, .int)]) [0] rfl
          have hFc := va_free (wc := (wd_82cdd16b h1 h2 v1 x112 x113 x114 h2 g0 f5)) hD hS hA [1, 2] rfl
          refine va_calli (va_runV (As := []) (rest := []) ⟨hx, hb, hml, hown, hts⟩ (k_X10_next l dC dI h1 h2 v1 x112 x113 x114 g0 f5 ⟨by first | omega | decide, by first | omega | decide⟩ H.size) (cwV 0 hts g_X3_readTerm_2_1 rfl rfl rfl (by decide +kernel) ⟨Nat.le_of_ble_eq_true rfl, Nat.le_of_ble_eq_true rfl⟩) ⟨fun a U g mk q => by obtain ⟨q0, q1, qP, qK, qD⟩ := q; exact ⟨q0, q1, qP, va_K.moved (u := U) (U := U.calling g mk a) (Vm.Alike.refl U.vm) qK, qD⟩, va_recv hKc hPc (ci := 10) (q0 := 0) rfl rfl, fun U hU hW => ⟨rfl, by rw [hU], by rw [hU]; exact hPc, va_K.moved hW.alike hKc, hDc.weaken (fun _ _ _ _ => trivial)⟩⟩ rfl rfl hl.1 rfl (lv_room (Nat.le_of_ble_eq_true rfl)) dX3_readTerm_23 ⟨Nat.le_of_ble_eq_true rfl, Nat.le_of_ble_eq_true rfl⟩) hS (fun q _ h => hFc q h) hFc (fun ra124 u t H1 locs ht hvm hwra124 hB hz1 hk1 hS => ?_)
          obtain ⟨x125, hP1, hK1, hD1⟩ := hB
          rw [ht] at hP1
          obtain ⟨hP, hD⟩ := va_join (wr := (wd_b958b9da h0 h1 h3 x111 h3 g1 fn115)) (w1 := (wd_82cdd16b h1 h2 v1 x125 x113 x114 h2 g0 f5)) hP hD [1, 2] [0, 3] rfl rfl (by decide) (by decide) hk1 hFc hP1 hD1
          generalize H1 = H at hP hS ⊢
          have hP := hP.sub (ws' := (wd_1ad0248d h0 h1 h3 x111 h1 h2 v1 x125 x113 x114 h2 g0 f5 h3 g1 fn115)) [0, 2, 3, 1] rfl
          have hD := hD.sub (ws' := (wd_1ad0248d h0 h1 h3 x111 h1 h2 v1 x125 x113 x114 h2 g0 f5 h3 g1 fn115)) [0, 2, 3, 1] (by decide) rfl
          have hP : va_P (dC, dI) vwCl (wd_1ad0248d h0 h1 h3 x111 h1 h2 v1 x125 x113 x114 h2 g0 f5 h3 g1 fn115) H := hP
          have hD : va_D A (wd_1ad0248d h0 h1 h3 x111 h1 h2 v1 x125 x113 x114 h2 g0 f5 h3 g1 fn115) := hD
          refine lv_istore_n (lv' := [(3, .int ra124), (2, .int x110), (0, .ref h0), (1, .int 4)]) hx hb dX3_readTerm_26 rfl hl (by decide) rfl (fun ls hl => ?_)
          refine lv_iload_n hx hb dX3_readTerm_27 rfl (lv_at hl 0 rfl) ?_
          refine lv_bipush (v := 42) hx hb dX3_readTerm_28 (by decide) ?_
          refine lv_icmp_eq (tgt := 41) hx hb dX3_readTerm_30 (by decide) (fun c126 => ?_) (fun c126 => ?_)
          · skip
            have fc126 : ra124.toInt = 42 := congrArg Int32.toInt c126
            refine lv_aload_n hx hb dX3_readTerm_41 rfl (lv_at hl 2 rfl) ?_
            refine va_get (D := (dC, dI)) (ci := 3) (v := .ref h1) (C := RX3) (T := TX3) (N := 3) hx hb hts (fun _ h => List.mem_cons_of_mem _ (List.mem_append_left _ (List.mem_append_right _ h))) hown hK hP 0 rfl rfl 0 (by decide) (hts (.fieldLink RX3 19 "LeftArguments$LawReader" "tape" "LLeftArguments$Tape;") (List.mem_cons_of_mem _ (List.mem_append_left _ (List.mem_append_left _ (List.mem_of_getElem? (i := 1) rfl))))) (fun _ h9 => h9) rfl dX3_readTerm_42 ?_
            have hPc := hP.sub (ws' := (wd_09b0abee h1 h2 v1 x125 x113 x114)) [1] rfl
            have hDc := hD.sub (ws' := (wd_09b0abee h1 h2 v1 x125 x113 x114)) [1] (by decide) rfl
            have hKc := hK.sub (tys' := []) [] rfl
            have hFc := va_free (wc := (wd_09b0abee h1 h2 v1 x125 x113 x114)) hD hS hA [1] rfl
            refine va_callv (va_runV (As := []) (rest := []) ⟨hx, hb, hml, hown, hts⟩ (k_X10_step l dC dI h1 h2 v1 x125 x113 x114 ⟨by first | omega | decide, by first | omega | decide⟩ H.size) (cwV 0 hts g_X3_readTerm_2_2 rfl rfl rfl (by decide +kernel) ⟨Nat.le_of_ble_eq_true rfl, Nat.le_of_ble_eq_true rfl⟩) ⟨fun a U g mk q => by obtain ⟨q0, q1, qP, qK, qD⟩ := q; exact ⟨q0, q1, qP, va_K.moved (u := U) (U := U.calling g mk a) (Vm.Alike.refl U.vm) qK, qD⟩, va_recv hKc hPc (ci := 10) (q0 := 0) rfl rfl, fun U hU hW => ⟨rfl, by rw [hU], by rw [hU]; exact hPc, va_K.moved hW.alike hKc, hDc.weaken (fun _ _ _ _ => trivial)⟩⟩ rfl rfl hl.1 rfl (lv_room (Nat.le_of_ble_eq_true rfl)) dX3_readTerm_45 ⟨Nat.le_of_ble_eq_true rfl, Nat.le_of_ble_eq_true rfl⟩) hS (fun q _ h => hFc q h) hFc (fun u t H1 locs ht hvm hwra127 hB hz1 hk1 hS => ?_)
            obtain ⟨x128, hP1, hK1, hD1⟩ := hB
            rw [ht] at hP1
            obtain ⟨hP, hD⟩ := va_join (wr := (wd_6b0d8e05 h0 h1 h3 x111 h2 g0 f5 h3 g1 fn115)) (w1 := (wd_09b0abee h1 h2 v1 x128 x113 x114)) hP hD [1] [0, 2, 3] rfl rfl (by decide) (by decide) hk1 hFc hP1 hD1
            generalize H1 = H at hP hS ⊢
            have hP := hP.sub (ws' := (wd_1ad0248d h0 h1 h3 x111 h1 h2 v1 x128 x113 x114 h2 g0 f5 h3 g1 fn115)) [0, 3, 1, 2] rfl
            have hD := hD.sub (ws' := (wd_1ad0248d h0 h1 h3 x111 h1 h2 v1 x128 x113 x114 h2 g0 f5 h3 g1 fn115)) [0, 3, 1, 2] (by decide) rfl
            have hP : va_P (dC, dI) vwCl (wd_1ad0248d h0 h1 h3 x111 h1 h2 v1 x128 x113 x114 h2 g0 f5 h3 g1 fn115) H := hP
            have hD : va_D A (wd_1ad0248d h0 h1 h3 x111 h1 h2 v1 x128 x113 x114 h2 g0 f5 h3 g1 fn115) := hD
            refine lv_aload_n hx hb dX3_readTerm_48 rfl (lv_at hl 2 rfl) ?_
            refine lv_iload_n hx hb dX3_readTerm_49 rfl (lv_at hl 3 rfl) ?_
            have hPc := hP.sub (ws' := (wd_1ad0248d h0 h1 h3 x111 h1 h2 v1 x128 x113 x114 h2 g0 f5 h3 g1 fn115)) [0, 1, 2, 3] rfl
            have hDc := hD.sub (ws' := (wd_1ad0248d h0 h1 h3 x111 h1 h2 v1 x128 x113 x114 h2 g0 f5 h3 g1 fn115)) [0, 1, 2, 3] (by decide) rfl
            have hKc := hK.sub (tys' := [(g0, .int), (g1, .int)]) [0, 1] rfl
            have hFc := va_free (wc := (wd_1ad0248d h0 h1 h3 x111 h1 h2 v1 x128 x113 x114 h2 g0 f5 h3 g1 fn115)) hD hS hA [0, 1, 2, 3] rfl
            refine va_calli (va_runV (As := [.int 4]) (rest := []) ⟨hx, hb, hml, hown, hts⟩ (k_X3_readAtom_2 l dC dI adK adV h0 h1 h2 h3 x111 v1 x128 x113 x114 g0 f5 g1 fn115 ⟨by first | omega | decide, by first | omega | decide⟩ ⟨by first | omega | decide, by first | omega | decide⟩ H.size) (cwV 1 hts g_X3_readTerm_2_0 rfl rfl rfl (by decide +kernel) ⟨Nat.le_of_ble_eq_true rfl, Nat.le_of_ble_eq_true rfl⟩) ⟨fun a U g mk q => by obtain ⟨q0, q1, qP, qK, qD, n0, n1, n2⟩ := q; exact ⟨q0, q1, qP, va_K.moved (u := U) (U := U.calling g mk a) (Vm.Alike.refl U.vm) qK, qD, vk_R.same rfl n0, va_Z.moved (Vm.Alike.refl _) n1, vk_S.moved (Vm.Alike.refl _) n2⟩, va_recv hKc hPc (ci := 3) (q0 := 0) rfl rfl, fun U hU hW => ⟨rfl, by rw [hU], by rw [hU]; exact hPc, va_K.moved hW.alike hKc, hDc.weaken (fun _ _ _ _ => trivial), vk_R.warm hW h_vr_2, (by rw [hU]; exact (va_Z.moved hW.alike (va_Z.kept h_st_CS hS.2.1)).narrow hFc), (by rw [hU]; exact (vk_S.moved hW.alike (vk_S.kept h_st_S hS.2.1)).narrow hFc)⟩⟩ rfl rfl hl.1 rfl (lv_room (Nat.le_of_ble_eq_true rfl)) dX3_readTerm_50 ⟨Nat.le_of_ble_eq_true rfl, Nat.le_of_ble_eq_true rfl⟩) hS (fun q _ h => hFc q h) hFc (fun ra129 u t H1 locs ht hvm hwra129 hB hz1 hk1 hS => ?_)
            obtain ⟨x130, x131, x132, x133, fn134, oa_x130, ob_x130, hP1, hK1, hD1⟩ := hB
            rw [ht] at hP1
            obtain ⟨hP, hD⟩ := va_join (wr := []) (w1 := (wd_1ad0248d h0 h1 h3 x130 h1 h2 v1 x131 x132 x133 h2 g0 f5 h3 g1 fn134)) hP hD [0, 1, 2, 3] [] rfl rfl (by decide) (by decide) hk1 hFc hP1 hD1
            generalize H1 = H at hP hS ⊢
            have hP : va_P (dC, dI) vwCl (wd_1ad0248d h0 h1 h3 x130 h1 h2 v1 x131 x132 x133 h2 g0 f5 h3 g1 fn134) H := hP
            have hD : va_D A (wd_1ad0248d h0 h1 h3 x130 h1 h2 v1 x131 x132 x133 h2 g0 f5 h3 g1 fn134) := hD
            obtain ⟨wa_ra129, wb_ra129⟩ := hwra129
            have wa_ra129 : 0 ≤ ra129.toInt := wa_ra129
            have wb_ra129 : ra129.toInt ≤ 1 := wb_ra129
            refine lv_if_ne (tgt := 58) hx hb dX3_readTerm_53 (by decide) (fun c135 => ?_) (fun c135 => ?_)
            · skip
              have fc135 : ¬ (ra129.toInt = 0) := fun h9 => c135 (Int32.toInt_inj.mp h9)
              refine lv_aload_n hx hb dX3_readTerm_58 rfl (lv_at hl 2 rfl) ?_
              refine lv_iload_n hx hb dX3_readTerm_59 rfl (lv_at hl 0 rfl) ?_
              refine lv_bipush (v := 42) hx hb dX3_readTerm_60 (by decide) ?_
              refine lv_icmp_ne (tgt := 69) hx hb dX3_readTerm_62 (by decide) (fun c136 => by exfalso; have fc136 : ¬ (ra124.toInt = 42) := fun h9 => c136 (Int32.toInt_inj.mp h9); omega) (fun _ => ?_)
              refine lv_iconst (v := 4) hx hb dX3_readTerm_65 (by decide) ?_
              refine lv_goto (tgt := 70) hx hb dX3_readTerm_66 (by decide) ?_
              refine lv_iconst (v := 0) hx hb dX3_readTerm_70 (by decide) ?_
              have hPc := hP.sub (ws' := (wd_b958b9da h0 h1 h3 x130 h3 g1 fn134)) [0, 3] rfl
              have hDc := hD.sub (ws' := (wd_b958b9da h0 h1 h3 x130 h3 g1 fn134)) [0, 3] (by decide) rfl
              have hKc := hK.sub (tys' := [(g1, .int)]) [1] rfl
              have hFc := va_free (wc := (wd_b958b9da h0 h1 h3 x130 h3 g1 fn134)) hD hS hA [0, 3] rfl
              refine va_callv (va_runV (As := [.int 4, .int 0]) (rest := []) ⟨hx, hb, hml, hown, hts⟩ (k_X3_write l dC dI h0 h3 h1 x130 g1 fn134 4 0 ⟨by first | omega | decide, by first | omega | decide⟩ H.size) (cwV 2 hts g_X3_readTerm_2_4 rfl rfl rfl (by decide +kernel) ⟨Nat.le_of_ble_eq_true rfl, Nat.le_of_ble_eq_true rfl⟩) ⟨fun a U g mk q => by obtain ⟨q0, q1, qP, qK, qD⟩ := q; exact ⟨q0, q1, qP, va_K.moved (u := U) (U := U.calling g mk a) (Vm.Alike.refl U.vm) qK, qD⟩, va_recv hKc hPc (ci := 3) (q0 := 0) rfl rfl, fun U hU hW => ⟨rfl, by rw [hU], by rw [hU]; exact hPc, va_K.moved hW.alike hKc, hDc.weaken (fun _ _ _ _ => trivial)⟩⟩ rfl rfl hl.1 rfl (lv_room (Nat.le_of_ble_eq_true rfl)) dX3_readTerm_71 ⟨Nat.le_of_ble_eq_true rfl, Nat.le_of_ble_eq_true rfl⟩) hS (fun q _ h => hFc q h) hFc (fun u t H1 locs ht hvm hwra137 hB hz1 hk1 hS => ?_)
              obtain ⟨x138, fn139, oa_x138, ob_x138, hP1, hK1, hD1⟩ := hB
              rw [ht] at hP1
              obtain ⟨hP, hD⟩ := va_join (wr := (wd_82cdd16b h1 h2 v1 x131 x132 x133 h2 g0 f5)) (w1 := (wd_b958b9da h0 h1 h3 x138 h3 g1 fn139)) hP hD [0, 3] [1, 2] rfl rfl (by decide) (by decide) hk1 hFc hP1 hD1
              generalize H1 = H at hP hS ⊢
              have hP := hP.sub (ws' := (wd_1ad0248d h0 h1 h3 x138 h1 h2 v1 x131 x132 x133 h2 g0 f5 h3 g1 fn139)) [2, 0, 1, 3] rfl
              have hD := hD.sub (ws' := (wd_1ad0248d h0 h1 h3 x138 h1 h2 v1 x131 x132 x133 h2 g0 f5 h3 g1 fn139)) [2, 0, 1, 3] (by decide) rfl
              have hP : va_P (dC, dI) vwCl (wd_1ad0248d h0 h1 h3 x138 h1 h2 v1 x131 x132 x133 h2 g0 f5 h3 g1 fn139) H := hP
              have hD : va_D A (wd_1ad0248d h0 h1 h3 x138 h1 h2 v1 x131 x132 x133 h2 g0 f5 h3 g1 fn139) := hD
              obtain ⟨t140, et140⟩ : ∃ y : Int32, y = x110 + 1 := ⟨_, rfl⟩
              have gt140 : t140.toInt = x110.toInt + (1) := pv_add (a := x110.toInt) (b := (1)) et140 rfl (by decide) (by omega) (by omega)
              refine lv_iinc (v := t140) (lv' := [(2, .int t140), (3, .int ra124), (0, .ref h0), (1, .int 4)]) hx hb dX3_readTerm_74 hl (k := 1) rfl (by rw [et140]; rfl) (by decide) rfl (fun ls hl => ?_)
              refine lv_goto (tgt := 12) hx hb dX3_readTerm_77 (by decide) ?_
              exact ih_hL122 t140 x138 x131 x132 x133 fn139 H locs ls (by first | omega | decide) (by first | omega | decide) (by first | omega | decide) (by first | omega | decide) (by first | omega | (simp only [Int.toNat] at *; omega)) hP hD hS (lv_sub hl [0, 2, 3] rfl)
            · skip
              have fc135 : ra129.toInt = 0 := congrArg Int32.toInt c135
              refine lv_iconst (v := 0) hx hb dX3_readTerm_56 (by decide) ?_
              subst hQ
              have hP9 := hP.sub (ws' := (wd_1ad0248d h0 h1 h3 x130 h1 h2 v1 x131 x132 x133 h2 g0 f5 h3 g1 fn134)) [0, 1, 2, 3] rfl
              have hD9 := hD.sub (ws' := (wd_1ad0248d h0 h1 h3 x130 h1 h2 v1 x131 x132 x133 h2 g0 f5 h3 g1 fn134)) [0, 1, 2, 3] (by decide) rfl
              have hK9 := hK.sub (tys' := []) [] rfl
              exact W.zret (v := 0) hx hb hr rfl (fun t ht hW => ⟨⟨0, (), rfl, ⟨by first | omega | decide, by first | omega | decide⟩, x130, x131, x132, x133, fn134, by first | omega | decide, by first | omega | decide, by rw [ht]; exact hP9, va_K.moved hW.alike hK9, hD9⟩, hS.F ht⟩) hS.2.2 dX3_readTerm_57
          · skip
            have fc126 : ¬ (ra124.toInt = 42) := fun h9 => c126 (Int32.toInt_inj.mp h9)
            refine lv_iload_n hx hb dX3_readTerm_33 rfl (lv_at hl 0 rfl) ?_
            refine lv_bipush (v := 47) hx hb dX3_readTerm_34 (by decide) ?_
            refine lv_icmp_eq (tgt := 41) hx hb dX3_readTerm_36 (by decide) (fun c141 => ?_) (fun c141 => ?_)
            · skip
              have fc141 : ra124.toInt = 47 := congrArg Int32.toInt c141
              refine lv_aload_n hx hb dX3_readTerm_41 rfl (lv_at hl 2 rfl) ?_
              refine va_get (D := (dC, dI)) (ci := 3) (v := .ref h1) (C := RX3) (T := TX3) (N := 3) hx hb hts (fun _ h => List.mem_cons_of_mem _ (List.mem_append_left _ (List.mem_append_right _ h))) hown hK hP 0 rfl rfl 0 (by decide) (hts (.fieldLink RX3 19 "LeftArguments$LawReader" "tape" "LLeftArguments$Tape;") (List.mem_cons_of_mem _ (List.mem_append_left _ (List.mem_append_left _ (List.mem_of_getElem? (i := 1) rfl))))) (fun _ h9 => h9) rfl dX3_readTerm_42 ?_
              have hPc := hP.sub (ws' := (wd_09b0abee h1 h2 v1 x125 x113 x114)) [1] rfl
              have hDc := hD.sub (ws' := (wd_09b0abee h1 h2 v1 x125 x113 x114)) [1] (by decide) rfl
              have hKc := hK.sub (tys' := []) [] rfl
              have hFc := va_free (wc := (wd_09b0abee h1 h2 v1 x125 x113 x114)) hD hS hA [1] rfl
              refine va_callv (va_runV (As := []) (rest := []) ⟨hx, hb, hml, hown, hts⟩ (k_X10_step l dC dI h1 h2 v1 x125 x113 x114 ⟨by first | omega | decide, by first | omega | decide⟩ H.size) (cwV 0 hts g_X3_readTerm_2_2 rfl rfl rfl (by decide +kernel) ⟨Nat.le_of_ble_eq_true rfl, Nat.le_of_ble_eq_true rfl⟩) ⟨fun a U g mk q => by obtain ⟨q0, q1, qP, qK, qD⟩ := q; exact ⟨q0, q1, qP, va_K.moved (u := U) (U := U.calling g mk a) (Vm.Alike.refl U.vm) qK, qD⟩, va_recv hKc hPc (ci := 10) (q0 := 0) rfl rfl, fun U hU hW => ⟨rfl, by rw [hU], by rw [hU]; exact hPc, va_K.moved hW.alike hKc, hDc.weaken (fun _ _ _ _ => trivial)⟩⟩ rfl rfl hl.1 rfl (lv_room (Nat.le_of_ble_eq_true rfl)) dX3_readTerm_45 ⟨Nat.le_of_ble_eq_true rfl, Nat.le_of_ble_eq_true rfl⟩) hS (fun q _ h => hFc q h) hFc (fun u t H1 locs ht hvm hwra142 hB hz1 hk1 hS => ?_)
              obtain ⟨x143, hP1, hK1, hD1⟩ := hB
              rw [ht] at hP1
              obtain ⟨hP, hD⟩ := va_join (wr := (wd_6b0d8e05 h0 h1 h3 x111 h2 g0 f5 h3 g1 fn115)) (w1 := (wd_09b0abee h1 h2 v1 x143 x113 x114)) hP hD [1] [0, 2, 3] rfl rfl (by decide) (by decide) hk1 hFc hP1 hD1
              generalize H1 = H at hP hS ⊢
              have hP := hP.sub (ws' := (wd_1ad0248d h0 h1 h3 x111 h1 h2 v1 x143 x113 x114 h2 g0 f5 h3 g1 fn115)) [0, 3, 1, 2] rfl
              have hD := hD.sub (ws' := (wd_1ad0248d h0 h1 h3 x111 h1 h2 v1 x143 x113 x114 h2 g0 f5 h3 g1 fn115)) [0, 3, 1, 2] (by decide) rfl
              have hP : va_P (dC, dI) vwCl (wd_1ad0248d h0 h1 h3 x111 h1 h2 v1 x143 x113 x114 h2 g0 f5 h3 g1 fn115) H := hP
              have hD : va_D A (wd_1ad0248d h0 h1 h3 x111 h1 h2 v1 x143 x113 x114 h2 g0 f5 h3 g1 fn115) := hD
              refine lv_aload_n hx hb dX3_readTerm_48 rfl (lv_at hl 2 rfl) ?_
              refine lv_iload_n hx hb dX3_readTerm_49 rfl (lv_at hl 3 rfl) ?_
              have hPc := hP.sub (ws' := (wd_1ad0248d h0 h1 h3 x111 h1 h2 v1 x143 x113 x114 h2 g0 f5 h3 g1 fn115)) [0, 1, 2, 3] rfl
              have hDc := hD.sub (ws' := (wd_1ad0248d h0 h1 h3 x111 h1 h2 v1 x143 x113 x114 h2 g0 f5 h3 g1 fn115)) [0, 1, 2, 3] (by decide) rfl
              have hKc := hK.sub (tys' := [(g0, .int), (g1, .int)]) [0, 1] rfl
              have hFc := va_free (wc := (wd_1ad0248d h0 h1 h3 x111 h1 h2 v1 x143 x113 x114 h2 g0 f5 h3 g1 fn115)) hD hS hA [0, 1, 2, 3] rfl
              refine va_calli (va_runV (As := [.int 4]) (rest := []) ⟨hx, hb, hml, hown, hts⟩ (k_X3_readAtom_2 l dC dI adK adV h0 h1 h2 h3 x111 v1 x143 x113 x114 g0 f5 g1 fn115 ⟨by first | omega | decide, by first | omega | decide⟩ ⟨by first | omega | decide, by first | omega | decide⟩ H.size) (cwV 1 hts g_X3_readTerm_2_0 rfl rfl rfl (by decide +kernel) ⟨Nat.le_of_ble_eq_true rfl, Nat.le_of_ble_eq_true rfl⟩) ⟨fun a U g mk q => by obtain ⟨q0, q1, qP, qK, qD, n0, n1, n2⟩ := q; exact ⟨q0, q1, qP, va_K.moved (u := U) (U := U.calling g mk a) (Vm.Alike.refl U.vm) qK, qD, vk_R.same rfl n0, va_Z.moved (Vm.Alike.refl _) n1, vk_S.moved (Vm.Alike.refl _) n2⟩, va_recv hKc hPc (ci := 3) (q0 := 0) rfl rfl, fun U hU hW => ⟨rfl, by rw [hU], by rw [hU]; exact hPc, va_K.moved hW.alike hKc, hDc.weaken (fun _ _ _ _ => trivial), vk_R.warm hW h_vr_2, (by rw [hU]; exact (va_Z.moved hW.alike (va_Z.kept h_st_CS hS.2.1)).narrow hFc), (by rw [hU]; exact (vk_S.moved hW.alike (vk_S.kept h_st_S hS.2.1)).narrow hFc)⟩⟩ rfl rfl hl.1 rfl (lv_room (Nat.le_of_ble_eq_true rfl)) dX3_readTerm_50 ⟨Nat.le_of_ble_eq_true rfl, Nat.le_of_ble_eq_true rfl⟩) hS (fun q _ h => hFc q h) hFc (fun ra144 u t H1 locs ht hvm hwra144 hB hz1 hk1 hS => ?_)
              obtain ⟨x145, x146, x147, x148, fn149, oa_x145, ob_x145, hP1, hK1, hD1⟩ := hB
              rw [ht] at hP1
              obtain ⟨hP, hD⟩ := va_join (wr := []) (w1 := (wd_1ad0248d h0 h1 h3 x145 h1 h2 v1 x146 x147 x148 h2 g0 f5 h3 g1 fn149)) hP hD [0, 1, 2, 3] [] rfl rfl (by decide) (by decide) hk1 hFc hP1 hD1
              generalize H1 = H at hP hS ⊢
              have hP : va_P (dC, dI) vwCl (wd_1ad0248d h0 h1 h3 x145 h1 h2 v1 x146 x147 x148 h2 g0 f5 h3 g1 fn149) H := hP
              have hD : va_D A (wd_1ad0248d h0 h1 h3 x145 h1 h2 v1 x146 x147 x148 h2 g0 f5 h3 g1 fn149) := hD
              obtain ⟨wa_ra144, wb_ra144⟩ := hwra144
              have wa_ra144 : 0 ≤ ra144.toInt := wa_ra144
              have wb_ra144 : ra144.toInt ≤ 1 := wb_ra144
              refine lv_if_ne (tgt := 58) hx hb dX3_readTerm_53 (by decide) (fun c150 => ?_) (fun c150 => ?_)
              · skip
                have fc150 : ¬ (ra144.toInt = 0) := fun h9 => c150 (Int32.toInt_inj.mp h9)
                refine lv_aload_n hx hb dX3_readTerm_58 rfl (lv_at hl 2 rfl) ?_
                refine lv_iload_n hx hb dX3_readTerm_59 rfl (lv_at hl 0 rfl) ?_
                refine lv_bipush (v := 42) hx hb dX3_readTerm_60 (by decide) ?_
                refine lv_icmp_ne (tgt := 69) hx hb dX3_readTerm_62 (by decide) (fun _ => ?_) (fun c151 => by exfalso; have fc151 : ra124.toInt = 42 := congrArg Int32.toInt c151; omega)
                refine lv_iconst (v := 5) hx hb dX3_readTerm_69 (by decide) ?_
                refine lv_iconst (v := 0) hx hb dX3_readTerm_70 (by decide) ?_
                have hPc := hP.sub (ws' := (wd_b958b9da h0 h1 h3 x145 h3 g1 fn149)) [0, 3] rfl
                have hDc := hD.sub (ws' := (wd_b958b9da h0 h1 h3 x145 h3 g1 fn149)) [0, 3] (by decide) rfl
                have hKc := hK.sub (tys' := [(g1, .int)]) [1] rfl
                have hFc := va_free (wc := (wd_b958b9da h0 h1 h3 x145 h3 g1 fn149)) hD hS hA [0, 3] rfl
                refine va_callv (va_runV (As := [.int 5, .int 0]) (rest := []) ⟨hx, hb, hml, hown, hts⟩ (k_X3_write l dC dI h0 h3 h1 x145 g1 fn149 5 0 ⟨by first | omega | decide, by first | omega | decide⟩ H.size) (cwV 2 hts g_X3_readTerm_2_4 rfl rfl rfl (by decide +kernel) ⟨Nat.le_of_ble_eq_true rfl, Nat.le_of_ble_eq_true rfl⟩) ⟨fun a U g mk q => by obtain ⟨q0, q1, qP, qK, qD⟩ := q; exact ⟨q0, q1, qP, va_K.moved (u := U) (U := U.calling g mk a) (Vm.Alike.refl U.vm) qK, qD⟩, va_recv hKc hPc (ci := 3) (q0 := 0) rfl rfl, fun U hU hW => ⟨rfl, by rw [hU], by rw [hU]; exact hPc, va_K.moved hW.alike hKc, hDc.weaken (fun _ _ _ _ => trivial)⟩⟩ rfl rfl hl.1 rfl (lv_room (Nat.le_of_ble_eq_true rfl)) dX3_readTerm_71 ⟨Nat.le_of_ble_eq_true rfl, Nat.le_of_ble_eq_true rfl⟩) hS (fun q _ h => hFc q h) hFc (fun u t H1 locs ht hvm hwra152 hB hz1 hk1 hS => ?_)
                obtain ⟨x153, fn154, oa_x153, ob_x153, hP1, hK1, hD1⟩ := hB
                rw [ht] at hP1
                obtain ⟨hP, hD⟩ := va_join (wr := (wd_82cdd16b h1 h2 v1 x146 x147 x148 h2 g0 f5)) (w1 := (wd_b958b9da h0 h1 h3 x153 h3 g1 fn154)) hP hD [0, 3] [1, 2] rfl rfl (by decide) (by decide) hk1 hFc hP1 hD1
                generalize H1 = H at hP hS ⊢
                have hP := hP.sub (ws' := (wd_1ad0248d h0 h1 h3 x153 h1 h2 v1 x146 x147 x148 h2 g0 f5 h3 g1 fn154)) [2, 0, 1, 3] rfl
                have hD := hD.sub (ws' := (wd_1ad0248d h0 h1 h3 x153 h1 h2 v1 x146 x147 x148 h2 g0 f5 h3 g1 fn154)) [2, 0, 1, 3] (by decide) rfl
                have hP : va_P (dC, dI) vwCl (wd_1ad0248d h0 h1 h3 x153 h1 h2 v1 x146 x147 x148 h2 g0 f5 h3 g1 fn154) H := hP
                have hD : va_D A (wd_1ad0248d h0 h1 h3 x153 h1 h2 v1 x146 x147 x148 h2 g0 f5 h3 g1 fn154) := hD
                obtain ⟨t155, et155⟩ : ∃ y : Int32, y = x110 + 1 := ⟨_, rfl⟩
                have gt155 : t155.toInt = x110.toInt + (1) := pv_add (a := x110.toInt) (b := (1)) et155 rfl (by decide) (by omega) (by omega)
                refine lv_iinc (v := t155) (lv' := [(2, .int t155), (3, .int ra124), (0, .ref h0), (1, .int 4)]) hx hb dX3_readTerm_74 hl (k := 1) rfl (by rw [et155]; rfl) (by decide) rfl (fun ls hl => ?_)
                refine lv_goto (tgt := 12) hx hb dX3_readTerm_77 (by decide) ?_
                exact ih_hL122 t155 x153 x146 x147 x148 fn154 H locs ls (by first | omega | decide) (by first | omega | decide) (by first | omega | decide) (by first | omega | decide) (by first | omega | (simp only [Int.toNat] at *; omega)) hP hD hS (lv_sub hl [0, 2, 3] rfl)
              · skip
                have fc150 : ra144.toInt = 0 := congrArg Int32.toInt c150
                refine lv_iconst (v := 0) hx hb dX3_readTerm_56 (by decide) ?_
                subst hQ
                have hP9 := hP.sub (ws' := (wd_1ad0248d h0 h1 h3 x145 h1 h2 v1 x146 x147 x148 h2 g0 f5 h3 g1 fn149)) [0, 1, 2, 3] rfl
                have hD9 := hD.sub (ws' := (wd_1ad0248d h0 h1 h3 x145 h1 h2 v1 x146 x147 x148 h2 g0 f5 h3 g1 fn149)) [0, 1, 2, 3] (by decide) rfl
                have hK9 := hK.sub (tys' := []) [] rfl
                exact W.zret (v := 0) hx hb hr rfl (fun t ht hW => ⟨⟨0, (), rfl, ⟨by first | omega | decide, by first | omega | decide⟩, x145, x146, x147, x148, fn149, by first | omega | decide, by first | omega | decide, by rw [ht]; exact hP9, va_K.moved hW.alike hK9, hD9⟩, hS.F ht⟩) hS.2.2 dX3_readTerm_57
            · skip
              have fc141 : ¬ (ra124.toInt = 47) := fun h9 => c141 (Int32.toInt_inj.mp h9)
              refine lv_iconst (v := 1) hx hb dX3_readTerm_39 (by decide) ?_
              subst hQ
              have hP9 := hP.sub (ws' := (wd_1ad0248d h0 h1 h3 x111 h1 h2 v1 x125 x113 x114 h2 g0 f5 h3 g1 fn115)) [0, 1, 2, 3] rfl
              have hD9 := hD.sub (ws' := (wd_1ad0248d h0 h1 h3 x111 h1 h2 v1 x125 x113 x114 h2 g0 f5 h3 g1 fn115)) [0, 1, 2, 3] (by decide) rfl
              have hK9 := hK.sub (tys' := []) [] rfl
              exact W.zret (v := 1) hx hb hr rfl (fun t ht hW => ⟨⟨1, (), rfl, ⟨by first | omega | decide, by first | omega | decide⟩, x111, x125, x113, x114, fn115, by first | omega | decide, by first | omega | decide, by rw [ht]; exact hP9, va_K.moved hW.alike hK9, hD9⟩, hS.F ht⟩) hS.2.2 dX3_readTerm_40
    exact hL122 _ 0 x2 x3 x4 x5 fn6 H locs ls (by first | omega | decide) (by first | omega | decide) (by first | omega | decide) (by first | omega | decide) (Nat.lt_succ_self _) hP hD hS (lv_sub hl [0, 1, 2] rfl)
  · skip
    have fc7 : ra1.toInt = 0 := congrArg Int32.toInt c7
    refine lv_iconst (v := 0) hx hb dX3_readTerm_8 (by decide) ?_
    subst hQ
    have hP9 := hP.sub (ws' := (wd_1ad0248d h0 h1 h3 x2 h1 h2 v1 x3 x4 x5 h2 g0 f5 h3 g1 fn6)) [0, 1, 2, 3] rfl
    have hD9 := hD.sub (ws' := (wd_1ad0248d h0 h1 h3 x2 h1 h2 v1 x3 x4 x5 h2 g0 f5 h3 g1 fn6)) [0, 1, 2, 3] (by decide) rfl
    have hK9 := hK.sub (tys' := []) [] rfl
    exact W.zret (v := 0) hx hb hr rfl (fun t ht hW => ⟨⟨0, (), rfl, ⟨by first | omega | decide, by first | omega | decide⟩, x2, x3, x4, x5, fn6, by first | omega | decide, by first | omega | decide, by rw [ht]; exact hP9, va_K.moved hW.alike hK9, hD9⟩, hS.F ht⟩) hS.2.2 dX3_readTerm_9
def q_X3_readSum_2 : List Cond := .code yX3_readSum cX3_readSum 4 (some .boolean) :: (([.code yX3_readTerm cX3_readTerm 4 (some .boolean), .code yX3_readAtom cX3_readAtom 4 (some .boolean), .fieldLink RX3 19 "LeftArguments$LawReader" "tape" "LLeftArguments$Tape;", .code yX10_next cX10_next 1 (some .int), .fieldLink RX10 19 "LeftArguments$Tape" "at" "I", .fieldLink RX10 15 "LeftArguments$Tape" "used" "I", .fieldLink RX10 9 "LeftArguments$Tape" "bytes" "[I", .initialized RX10, .instanceMethod yX10_next, .selects RX10 yX10_next yX10_next, .methodLink RX3 48 yX10_next, .code yX10_isDigit cX10_isDigit 1 (some .boolean), .static yX10_isDigit, .methodLink RX3 92 yX10_isDigit, .code yX10_step cX10_step 1 none, .instanceMethod yX10_step, .selects RX10 yX10_step yX10_step, .methodLink RX3 77 yX10_step, .code yX3_write cX3_write 3 none, .fieldLink RX3 15 "LeftArguments$LawReader" "used" "I", .fieldLink RX3 11 "LeftArguments$LawReader" "code" "[I", .initialized RX3, .instanceMethod yX3_write, .selects RX3 yX3_write yX3_write, .methodLink RX3 66 yX3_write, .code yX10_wrongHere cX10_wrongHere 1 (some .boolean), .fieldLink RX10 22 "LeftArguments$Tape" "wrongAt" "I", .instanceMethod yX10_wrongHere, .selects RX10 yX10_wrongHere yX10_wrongHere, .methodLink RX3 83 yX10_wrongHere, .code yJ0_indexOf_0f7a4 cJ0_indexOf_0f7a4 2 (some .int), .code yJ0_indexOf_7cf53 cJ0_indexOf_7cf53 3 (some .int), .code yJ0_isLatin1_aae02 cJ0_isLatin1_aae02 1 (some .boolean), .fieldLink RJ0 38 "java/lang/String" "COMPACT_STRINGS" "Z", .fieldLink RJ0 15 "java/lang/String" "coder" "B", .initialized RJ0, .instanceMethod yJ0_isLatin1_aae02, .selects RJ0 yJ0_isLatin1_aae02 yJ0_isLatin1_aae02, .methodLink RJ0 492 yJ0_isLatin1_aae02, .fieldLink RJ0 9 "java/lang/String" "value" "[B", .code yJ0_length_8abf5 cJ0_length_8abf5 1 (some .int), .code yJ0_coder_7d493 cJ0_coder_7d493 1 (some .byte), .instanceMethod yJ0_coder_7d493, .selects RJ0 yJ0_coder_7d493 yJ0_coder_7d493, .methodLink RJ0 335 yJ0_coder_7d493, .instanceMethod yJ0_length_8abf5, .selects RJ0 yJ0_length_8abf5 yJ0_length_8abf5, .methodLink RJ0 505 yJ0_length_8abf5, .code yJ1_indexOf_4cfef cJ1_indexOf_4cfef 4 (some .int), .code yJ1_canEncode_9a6ad cJ1_canEncode_9a6ad 1 (some .boolean), .initialized RJ1, .static yJ1_canEncode_9a6ad, .methodLink RJ1 88 yJ1_canEncode_9a6ad, .methodLink RJ1 92 Lib.Math.max.name, .static Lib.Math.max.name, .initialized "java/lang/Math", .code Lib.Math.max.name Lib.Math.max.code 2 (some .int), .methodLink RJ1 38 Lib.Math.min.name, .static Lib.Math.min.name, .code Lib.Math.min.name Lib.Math.min.code 2 (some .int), .code yJ1_indexOfChar_4cfef cJ1_indexOfChar_4cfef 6 (some .int), .static yJ1_indexOfChar_4cfef, .methodLink RJ1 95 yJ1_indexOfChar_4cfef, .static yJ1_indexOf_4cfef, .methodLink RJ0 637 yJ1_indexOf_4cfef, .instanceMethod yJ0_indexOf_7cf53, .selects RJ0 yJ0_indexOf_7cf53 yJ0_indexOf_7cf53, .methodLink RJ0 633 yJ0_indexOf_7cf53, .instanceMethod yJ0_indexOf_0f7a4, .selects RJ0 yJ0_indexOf_0f7a4 yJ0_indexOf_0f7a4, .methodLink RX3 103 yJ0_indexOf_0f7a4, .code yX10_takeNumber cX10_takeNumber 3 (some .boolean), .methodLink RX10 37 yX10_next, .methodLink RX10 45 yX10_isDigit, .fieldLink RX10 25 "LeftArguments$Tape" "number" "I", .code yX10_sign cX10_sign 1 (some .int), .instanceMethod yX10_sign, .selects RX10 yX10_sign yX10_sign, .methodLink RX10 49 yX10_sign, .methodLink RX10 41 yX10_wrongHere, .instanceMethod yX10_takeNumber, .selects RX10 yX10_takeNumber yX10_takeNumber, .methodLink RX3 95 yX10_takeNumber, .code yX10_number cX10_number 1 (some .int), .instanceMethod yX10_number, .selects RX10 yX10_number yX10_number, .methodLink RX3 98 yX10_number, .code yX3_readSum cX3_readSum 4 (some .boolean), .instanceMethod yX3_readAtom, .selects RX3 yX3_readAtom yX3_readAtom, .methodLink RX3 89 yX3_readAtom, .instanceMethod yX3_readTerm, .selects RX3 yX3_readTerm yX3_readTerm, .methodLink RX3 86 yX3_readTerm, .instanceMethod yX3_readSum, .selects RX3 yX3_readSum yX3_readSum, .methodLink RX3 59 yX3_readSum, .code yX10_take cX10_take 2 (some .boolean), .instanceMethod yX10_take, .selects RX10 yX10_take yX10_take, .methodLink RX3 51 yX10_take] : List Cond) ++ wsX30 ++ wsX100)
set_option maxRecDepth 20000 in
theorem g_X3_readSum_2_0 : GoodIn q_X3_readSum_2 (wsV RX3 86 RX3 yX3_readTerm q_X3_readTerm_2) := goodIn_app (goodIn_r _ [94, 92, 93, 22] rfl (by decide +kernel)) (goodIn_ca (goodIn_ca (goodIn_r (.code yX3_readTerm cX3_readTerm 4 (some .boolean) :: [.code yX3_readAtom cX3_readAtom 4 (some .boolean), .fieldLink RX3 19 "LeftArguments$LawReader" "tape" "LLeftArguments$Tape;", .code yX10_next cX10_next 1 (some .int), .fieldLink RX10 19 "LeftArguments$Tape" "at" "I", .fieldLink RX10 15 "LeftArguments$Tape" "used" "I", .fieldLink RX10 9 "LeftArguments$Tape" "bytes" "[I", .initialized RX10, .instanceMethod yX10_next, .selects RX10 yX10_next yX10_next, .methodLink RX3 48 yX10_next, .code yX10_isDigit cX10_isDigit 1 (some .boolean), .static yX10_isDigit, .methodLink RX3 92 yX10_isDigit, .code yX10_step cX10_step 1 none, .instanceMethod yX10_step, .selects RX10 yX10_step yX10_step, .methodLink RX3 77 yX10_step, .code yX3_write cX3_write 3 none, .fieldLink RX3 15 "LeftArguments$LawReader" "used" "I", .fieldLink RX3 11 "LeftArguments$LawReader" "code" "[I", .initialized RX3, .instanceMethod yX3_write, .selects RX3 yX3_write yX3_write, .methodLink RX3 66 yX3_write, .code yX10_wrongHere cX10_wrongHere 1 (some .boolean), .fieldLink RX10 22 "LeftArguments$Tape" "wrongAt" "I", .instanceMethod yX10_wrongHere, .selects RX10 yX10_wrongHere yX10_wrongHere, .methodLink RX3 83 yX10_wrongHere, .code yJ0_indexOf_0f7a4 cJ0_indexOf_0f7a4 2 (some .int), .code yJ0_indexOf_7cf53 cJ0_indexOf_7cf53 3 (some .int), .code yJ0_isLatin1_aae02 cJ0_isLatin1_aae02 1 (some .boolean), .fieldLink RJ0 38 "java/lang/String" "COMPACT_STRINGS" "Z", .fieldLink RJ0 15 "java/lang/String" "coder" "B", .initialized RJ0, .instanceMethod yJ0_isLatin1_aae02, .selects RJ0 yJ0_isLatin1_aae02 yJ0_isLatin1_aae02, .methodLink RJ0 492 yJ0_isLatin1_aae02, .fieldLink RJ0 9 "java/lang/String" "value" "[B", .code yJ0_length_8abf5 cJ0_length_8abf5 1 (some .int), .code yJ0_coder_7d493 cJ0_coder_7d493 1 (some .byte), .instanceMethod yJ0_coder_7d493, .selects RJ0 yJ0_coder_7d493 yJ0_coder_7d493, .methodLink RJ0 335 yJ0_coder_7d493, .instanceMethod yJ0_length_8abf5, .selects RJ0 yJ0_length_8abf5 yJ0_length_8abf5, .methodLink RJ0 505 yJ0_length_8abf5, .code yJ1_indexOf_4cfef cJ1_indexOf_4cfef 4 (some .int), .code yJ1_canEncode_9a6ad cJ1_canEncode_9a6ad 1 (some .boolean), .initialized RJ1, .static yJ1_canEncode_9a6ad, .methodLink RJ1 88 yJ1_canEncode_9a6ad, .methodLink RJ1 92 Lib.Math.max.name, .static Lib.Math.max.name, .initialized "java/lang/Math", .code Lib.Math.max.name Lib.Math.max.code 2 (some .int), .methodLink RJ1 38 Lib.Math.min.name, .static Lib.Math.min.name, .code Lib.Math.min.name Lib.Math.min.code 2 (some .int), .code yJ1_indexOfChar_4cfef cJ1_indexOfChar_4cfef 6 (some .int), .static yJ1_indexOfChar_4cfef, .methodLink RJ1 95 yJ1_indexOfChar_4cfef, .static yJ1_indexOf_4cfef, .methodLink RJ0 637 yJ1_indexOf_4cfef, .instanceMethod yJ0_indexOf_7cf53, .selects RJ0 yJ0_indexOf_7cf53 yJ0_indexOf_7cf53, .methodLink RJ0 633 yJ0_indexOf_7cf53, .instanceMethod yJ0_indexOf_0f7a4, .selects RJ0 yJ0_indexOf_0f7a4 yJ0_indexOf_0f7a4, .methodLink RX3 103 yJ0_indexOf_0f7a4, .code yX10_takeNumber cX10_takeNumber 3 (some .boolean), .methodLink RX10 37 yX10_next, .methodLink RX10 45 yX10_isDigit, .fieldLink RX10 25 "LeftArguments$Tape" "number" "I", .code yX10_sign cX10_sign 1 (some .int), .instanceMethod yX10_sign, .selects RX10 yX10_sign yX10_sign, .methodLink RX10 49 yX10_sign, .methodLink RX10 41 yX10_wrongHere, .instanceMethod yX10_takeNumber, .selects RX10 yX10_takeNumber yX10_takeNumber, .methodLink RX3 95 yX10_takeNumber, .code yX10_number cX10_number 1 (some .int), .instanceMethod yX10_number, .selects RX10 yX10_number yX10_number, .methodLink RX3 98 yX10_number, .code yX3_readSum cX3_readSum 4 (some .boolean), .code yX3_readTerm cX3_readTerm 4 (some .boolean), .instanceMethod yX3_readAtom, .selects RX3 yX3_readAtom yX3_readAtom, .methodLink RX3 89 yX3_readAtom, .instanceMethod yX3_readTerm, .selects RX3 yX3_readTerm yX3_readTerm, .methodLink RX3 86 yX3_readTerm, .instanceMethod yX3_readSum, .selects RX3 yX3_readSum yX3_readSum, .methodLink RX3 59 yX3_readSum, .code yX10_take cX10_take 2 (some .boolean), .instanceMethod yX10_take, .selects RX10 yX10_take yX10_take, .methodLink RX3 51 yX10_take]) [1, 2, 3, 4, 5, 6, 7, 8, 9, 10, 11, 12, 13, 14, 15, 16, 17, 18, 19, 20, 21, 22, 23, 24, 25, 26, 27, 28, 29, 30, 31, 32, 33, 34, 35, 36, 37, 38, 39, 40, 41, 42, 43, 44, 45, 46, 47, 48, 49, 50, 51, 52, 53, 54, 55, 56, 57, 58, 59, 60, 61, 62, 63, 64, 65, 66, 67, 68, 69, 70, 71, 72, 73, 74, 75, 76, 77, 78, 79, 80, 81, 82, 83, 84, 85, 86, 87, 88, 1, 89, 90, 91, 92, 93, 94, 95, 96, 97, 98, 99, 100, 101] rfl (by decide +kernel)) (goodIn_sub (fun _ h => List.mem_cons_of_mem _ (List.mem_append_left _ (List.mem_append_right _ h))) gwX3)) (goodIn_sub (fun _ h => List.mem_cons_of_mem _ (List.mem_append_right _ h)) gwX10))
set_option maxRecDepth 20000 in
theorem g_X3_readSum_2_1 : GoodIn q_X3_readSum_2 (wsV RX3 48 RX10 yX10_next q_X10_next) := goodIn_app (goodIn_r _ [11, 9, 10, 8] rfl (by decide +kernel)) (goodIn_ca (goodIn_r (.code yX10_next cX10_next 1 (some .int) :: [.fieldLink RX10 19 "LeftArguments$Tape" "at" "I", .fieldLink RX10 15 "LeftArguments$Tape" "used" "I", .fieldLink RX10 9 "LeftArguments$Tape" "bytes" "[I"]) [4, 5, 6, 7] rfl (by decide +kernel)) (goodIn_sub (fun _ h => List.mem_cons_of_mem _ (List.mem_append_right _ h)) gwX10))
set_option maxRecDepth 20000 in
theorem g_X3_readSum_2_2 : GoodIn q_X3_readSum_2 (wsV RX3 77 RX10 yX10_step q_X10_step) := goodIn_app (goodIn_r _ [18, 16, 17, 8] rfl (by decide +kernel)) (goodIn_ca (goodIn_r (.code yX10_step cX10_step 1 none :: [.fieldLink RX10 19 "LeftArguments$Tape" "at" "I"]) [15, 5] rfl (by decide +kernel)) (goodIn_sub (fun _ h => List.mem_cons_of_mem _ (List.mem_append_right _ h)) gwX10))
set_option maxRecDepth 20000 in
theorem g_X3_readSum_2_4 : GoodIn q_X3_readSum_2 (wsV RX3 66 RX3 yX3_write q_X3_write) := goodIn_app (goodIn_r _ [25, 23, 24, 22] rfl (by decide +kernel)) (goodIn_ca (goodIn_r (.code yX3_write cX3_write 3 none :: [.fieldLink RX3 15 "LeftArguments$LawReader" "used" "I", .fieldLink RX3 11 "LeftArguments$LawReader" "code" "[I"]) [19, 20, 21] rfl (by decide +kernel)) (goodIn_sub (fun _ h => List.mem_cons_of_mem _ (List.mem_append_left _ (List.mem_append_right _ h))) gwX3))
set_option maxHeartbeats 4000000 in
set_option maxRecDepth 100000 in
theorem k_X3_readSum_2 (l : Launch) (dC : Nat → ClassId) (dI : Nat → Nat → Nat) (adK : Nat → Nat) (adV : Nat → Nat) (h0 : Nat) (h1 : Nat) (h2 : Nat) (h3 : Nat) (v0 : Int32) (v1 : Int32) (v2 : Int32) (v3 : Int32) (v4 : Int32) (g0 : ClassId) (f5 : Nat → Int32) (g1 : ClassId) (f6 : Nat → Int32) (i_v0 : 0 ≤ v0.toInt ∧ v0.toInt ≤ 256) (i_v1 : 0 ≤ v1.toInt ∧ v1.toInt ≤ 240) (sz : Nat) : Met l yX3_readSum q_X3_readSum_2 ({ frames := 12, cells := 0, slots := 0, locals := 275 }) (va_Pc [.ref h0, .int 4] (fun U => U.heap.size = sz ∧ va_P (dC, dI) vwCl (wd_1ad0248d h0 h1 h3 v0 h1 h2 v1 v2 v3 v4 h2 g0 f5 h3 g1 f6) U.heap ∧ va_K (dC, dI) vwCl [(g0, .int), (g1, .int)] U ∧ va_D (fun _ => True) (wd_1ad0248d h0 h1 h3 v0 h1 h2 v1 v2 v3 v4 h2 g0 f5 h3 g1 f6) ∧ vk_R RX3 101 "zaondt" (adK 2) U ∧ va_Z "java/lang/String" "COMPACT_STRINGS" "Z" (.int 1) (va_A (wd_1ad0248d h0 h1 h3 v0 h1 h2 v1 v2 v3 v4 h2 g0 f5 h3 g1 f6) sz) U U.heap ∧ vk_S 3 pv_len3 pv_byt3 adK adV (va_A (wd_1ad0248d h0 h1 h3 v0 h1 h2 v1 v2 v3 v4 h2 g0 f5 h3 g1 f6) sz) U U.heap)) (va_Qi (fun (r : Int32) (_ : Unit) => 0 ≤ r.toInt ∧ r.toInt ≤ 1) (fun (_ : Unit) (t : State) => ∃ (o_h0_2 : Int32) (o_h1_2 : Int32) (o_h1_3 : Int32) (o_h1_4 : Int32) (o_h3 : Nat → Int32), 0 ≤ o_h0_2.toInt ∧ o_h0_2.toInt ≤ 256 ∧ va_P (dC, dI) vwCl (wd_1ad0248d h0 h1 h3 o_h0_2 h1 h2 v1 o_h1_2 o_h1_3 o_h1_4 h2 g0 f5 h3 g1 o_h3) t.heap ∧ va_K (dC, dI) vwCl [] t ∧ va_D (va_A (wd_1ad0248d h0 h1 h3 v0 h1 h2 v1 v2 v3 v4 h2 g0 f5 h3 g1 f6) sz) (wd_1ad0248d h0 h1 h3 o_h0_2 h1 h2 v1 o_h1_2 o_h1_3 o_h1_4 h2 g0 f5 h3 g1 o_h3)) (va_A (wd_1ad0248d h0 h1 h3 v0 h1 h2 v1 v2 v3 v4 h2 g0 f5 h3 g1 f6) sz)) 0 0 (va_A (wd_1ad0248d h0 h1 h3 v0 h1 h2 v1 v2 v3 v4 h2 g0 f5 h3 g1 f6) sz) := by
  refine Met.ofW (cc := cX3_readSum) (maxL := 4) (ret := (some .boolean)) (by decide) rfl ?_
  intro p e s m args below meth c s₁ B hml hv
  obtain ⟨i_v0a, i_v0b⟩ := i_v0
  obtain ⟨i_v1a, i_v1b⟩ := i_v1
  obtain ⟨rfl, hsz, hP, hK, hD0, h_vr_2, h_st_CS, h_st_S⟩ := hv
  have hx := B.exec
  have hb := B.bytes
  have hr := B.returns
  have hts := atoms_spec (ws := q_X3_readSum_2) B.pre
  have hown : s.vm.findClass RX3 = some m.cls := findClass_of_methodNamed B.named
  have hlocks := B.notSynchronized
  subst hsz
  have hD := hD0.self (sz := s.heap.size)
  generalize hAe : va_A (wd_1ad0248d h0 h1 h3 v0 h1 h2 v1 v2 v3 v4 h2 g0 f5 h3 g1 f6) s.heap.size = A at hD h_st_CS h_st_S ⊢
  have hA : ∀ q : Nat, s.heap.size ≤ q → A q := fun q h => by rw [← hAe]; exact Or.inr h
  have hS : va_S A s.heap s.heap [] := va_S.rf
  generalize hQ : (MQ below _ _ s 0 0 A) = Q
  have hl := lv_entry ([.ref h0, .int 4]) (n := 4) (Nat.le_of_ble_eq_true rfl)
  rw [lg_entry_eq]
  generalize (lg_sl ([.ref h0, .int 4]) ++ List.replicate (4 - (lg_sl ([.ref h0, .int 4])).length) Slot.unset).toArray = ls at hl ⊢
  have hl : lv_has ls 4 [(0, .ref h0), (1, .int 4)] := hl
  obtain ⟨H, hH⟩ : ∃ H : Heap, H = s.heap := ⟨_, rfl⟩
  obtain ⟨locs, hlocs⟩ : ∃ y : List Loc, y = [] := ⟨_, rfl⟩
  have hS : va_S A s.heap H locs := by rw [hH, hlocs]; exact va_S.rf
  have hP : va_P (dC, dI) vwCl (wd_1ad0248d h0 h1 h3 v0 h1 h2 v1 v2 v3 v4 h2 g0 f5 h3 g1 f6) H := by rw [hH]; exact hP
  rw [← hH, ← hlocs]
  refine lv_aload_n hx hb dX3_readSum_0 rfl (lv_at hl 0 rfl) ?_
  refine lv_iload_n hx hb dX3_readSum_1 rfl (lv_at hl 1 rfl) ?_
  have hPc := hP.sub (ws' := (wd_1ad0248d h0 h1 h3 v0 h1 h2 v1 v2 v3 v4 h2 g0 f5 h3 g1 f6)) [0, 1, 2, 3] rfl
  have hDc := hD.sub (ws' := (wd_1ad0248d h0 h1 h3 v0 h1 h2 v1 v2 v3 v4 h2 g0 f5 h3 g1 f6)) [0, 1, 2, 3] (by decide) rfl
  have hKc := hK.sub (tys' := [(g0, .int), (g1, .int)]) [0, 1] rfl
  have hFc := va_free (wc := (wd_1ad0248d h0 h1 h3 v0 h1 h2 v1 v2 v3 v4 h2 g0 f5 h3 g1 f6)) hD hS hA [0, 1, 2, 3] rfl
  refine va_calli (va_runV (As := [.int 4]) (rest := []) ⟨hx, hb, hml, hown, hts⟩ (k_X3_readTerm_2 l dC dI adK adV h0 h1 h2 h3 v0 v1 v2 v3 v4 g0 f5 g1 f6 ⟨by first | omega | decide, by first | omega | decide⟩ ⟨by first | omega | decide, by first | omega | decide⟩ H.size) (cwV 1 hts g_X3_readSum_2_0 rfl rfl rfl (by decide +kernel) ⟨Nat.le_of_ble_eq_true rfl, Nat.le_of_ble_eq_true rfl⟩) ⟨fun a U g mk q => by obtain ⟨q0, q1, qP, qK, qD, n0, n1, n2⟩ := q; exact ⟨q0, q1, qP, va_K.moved (u := U) (U := U.calling g mk a) (Vm.Alike.refl U.vm) qK, qD, vk_R.same rfl n0, va_Z.moved (Vm.Alike.refl _) n1, vk_S.moved (Vm.Alike.refl _) n2⟩, va_recv hKc hPc (ci := 3) (q0 := 0) rfl rfl, fun U hU hW => ⟨rfl, by rw [hU], by rw [hU]; exact hPc, va_K.moved hW.alike hKc, hDc.weaken (fun _ _ _ _ => trivial), vk_R.warm hW h_vr_2, (by rw [hU]; exact (va_Z.moved hW.alike (va_Z.kept h_st_CS hS.2.1)).narrow hFc), (by rw [hU]; exact (vk_S.moved hW.alike (vk_S.kept h_st_S hS.2.1)).narrow hFc)⟩⟩ rfl rfl hl.1 rfl (lv_room (Nat.le_of_ble_eq_true rfl)) dX3_readSum_2 ⟨Nat.le_of_ble_eq_true rfl, Nat.le_of_ble_eq_true rfl⟩) hS (fun q _ h => hFc q h) hFc (fun ra1 u t H1 locs ht hvm hwra1 hB hz1 hk1 hS => ?_)
  obtain ⟨x2, x3, x4, x5, fn6, oa_x2, ob_x2, hP1, hK1, hD1⟩ := hB
  rw [ht] at hP1
  obtain ⟨hP, hD⟩ := va_join (wr := []) (w1 := (wd_1ad0248d h0 h1 h3 x2 h1 h2 v1 x3 x4 x5 h2 g0 f5 h3 g1 fn6)) hP hD [0, 1, 2, 3] [] rfl rfl (by decide) (by decide) hk1 hFc hP1 hD1
  generalize H1 = H at hP hS ⊢
  have hP : va_P (dC, dI) vwCl (wd_1ad0248d h0 h1 h3 x2 h1 h2 v1 x3 x4 x5 h2 g0 f5 h3 g1 fn6) H := hP
  have hD : va_D A (wd_1ad0248d h0 h1 h3 x2 h1 h2 v1 x3 x4 x5 h2 g0 f5 h3 g1 fn6) := hD
  obtain ⟨wa_ra1, wb_ra1⟩ := hwra1
  have wa_ra1 : 0 ≤ ra1.toInt := wa_ra1
  have wb_ra1 : ra1.toInt ≤ 1 := wb_ra1
  refine lv_if_ne (tgt := 10) hx hb dX3_readSum_5 (by decide) (fun c7 => ?_) (fun c7 => ?_)
  · skip
    have fc7 : ¬ (ra1.toInt = 0) := fun h9 => c7 (Int32.toInt_inj.mp h9)
    refine lv_iconst (v := 0) hx hb dX3_readSum_10 (by decide) ?_
    refine lv_istore_n (lv' := [(2, .int 0), (0, .ref h0), (1, .int 4)]) hx hb dX3_readSum_11 rfl hl (by decide) rfl (fun ls hl => ?_)
    have hL104 : ∀ (n9 : Nat), ∀ (x92 : Int32) (x93 : Int32) (x94 : Int32) (x95 : Int32) (x96 : Int32) (fn97 : Nat → Int32) (H : Heap) (locs : List Loc) (ls : Array Slot), 0 ≤ x92.toInt → x92.toInt ≤ 240 → 0 ≤ x93.toInt → x93.toInt ≤ 256 → (240 - x92.toInt).toNat < n9 → va_P (dC, dI) vwCl (wd_1ad0248d h0 h1 h3 x93 h1 h2 v1 x94 x95 x96 h2 g0 f5 h3 g1 fn97) H → va_D A (wd_1ad0248d h0 h1 h3 x93 h1 h2 v1 x94 x95 x96 h2 g0 f5 h3 g1 fn97) → va_S A s.heap H locs → lv_has ls 4 [(2, .int x92), (0, .ref h0), (1, .int 4)] → W p l e ({ frames := 12, cells := 0, slots := 0, locals := 275 }) s m ([.ref h0, .int 4] : List Value).toArray below meth c H locs 0 0 Q (F0 m 12 ls []) := by
      intro n9
      induction n9 with
      | zero => intro x92 x93 x94 x95 x96 fn97 H locs ls qa_x92 qb_x92 qa_x93 qb_x93 hm9 hP hD hS hl; exact absurd hm9 (Nat.not_lt_zero _)
      | succ n9 ih_hL104 =>
        intro x92 x93 x94 x95 x96 fn97 H locs ls qa_x92 qb_x92 qa_x93 qb_x93 hm9 hP hD hS hl
        refine lv_iload_n hx hb dX3_readSum_12 rfl (lv_at hl 0 rfl) ?_
        refine lv_sipush (v := 240) hx hb dX3_readSum_13 (by decide) ?_
        refine lv_icmp_ge (tgt := 80) hx hb dX3_readSum_16 (by decide) (fun c105 => ?_) (fun c105 => ?_)
        · skip
          have fc105 : 240 ≤ x92.toInt := Int32.le_iff_toInt_le.mp c105
          refine lv_iconst (v := 1) hx hb dX3_readSum_80 (by decide) ?_
          subst hQ
          have hP9 := hP.sub (ws' := (wd_1ad0248d h0 h1 h3 x93 h1 h2 v1 x94 x95 x96 h2 g0 f5 h3 g1 fn97)) [0, 1, 2, 3] rfl
          have hD9 := hD.sub (ws' := (wd_1ad0248d h0 h1 h3 x93 h1 h2 v1 x94 x95 x96 h2 g0 f5 h3 g1 fn97)) [0, 1, 2, 3] (by decide) rfl
          have hK9 := hK.sub (tys' := []) [] rfl
          exact W.zret (v := 1) hx hb hr rfl (fun t ht hW => ⟨⟨1, (), rfl, ⟨by first | omega | decide, by first | omega | decide⟩, x93, x94, x95, x96, fn97, by first | omega | decide, by first | omega | decide, by rw [ht]; exact hP9, va_K.moved hW.alike hK9, hD9⟩, hS.F ht⟩) hS.2.2 dX3_readSum_81
        · skip
          have fc105 : ¬ (240 ≤ x92.toInt) := fun h9 => c105 (Int32.le_iff_toInt_le.mpr h9)
          refine lv_aload_n hx hb dX3_readSum_19 rfl (lv_at hl 1 rfl) ?_
          refine va_get (D := (dC, dI)) (ci := 3) (v := .ref h1) (C := RX3) (T := TX3) (N := 3) hx hb hts (fun _ h => List.mem_cons_of_mem _ (List.mem_append_left _ (List.mem_append_right _ h))) hown hK hP 0 rfl rfl 0 (by decide) (hts (.fieldLink RX3 19 "LeftArguments$LawReader" "tape" "LLeftArguments$Tape;") (List.mem_cons_of_mem _ (List.mem_append_left _ (List.mem_append_left _ (List.mem_of_getElem? (i := 2) rfl))))) (fun _ h9 => h9) rfl dX3_readSum_20 ?_
          have hPc := hP.sub (ws' := (wd_82cdd16b h1 h2 v1 x94 x95 x96 h2 g0 f5)) [1, 2] rfl
          have hDc := hD.sub (ws' := (wd_82cdd16b h1 h2 v1 x94 x95 x96 h2 g0 f5)) [1, 2] (by decide) rfl
          have hKc := hK.sub (tys' := [(g0, .int)]) [0] rfl
          have hFc := va_free (wc := (wd_82cdd16b h1 h2 v1 x94 x95 x96 h2 g0 f5)) hD hS hA [1, 2] rfl
          refine va_calli (va_runV (As := []) (rest := []) ⟨hx, hb, hml, hown, hts⟩ (k_X10_next l dC dI h1 h2 v1 x94 x95 x96 g0 f5 ⟨by first | omega | decide, by first | omega | decide⟩ H.size) (cwV 0 hts g_X3_readSum_2_1 rfl rfl rfl (by decide +kernel) ⟨Nat.le_of_ble_eq_true rfl, Nat.le_of_ble_eq_true rfl⟩) ⟨fun a U g mk q => by obtain ⟨q0, q1, qP, qK, qD⟩ := q; exact ⟨q0, q1, qP, va_K.moved (u := U) (U := U.calling g mk a) (Vm.Alike.refl U.vm) qK, qD⟩, va_recv hKc hPc (ci := 10) (q0 := 0) rfl rfl, fun U hU hW => ⟨rfl, by rw [hU], by rw [hU]; exact hPc, va_K.moved hW.alike hKc, hDc.weaken (fun _ _ _ _ => trivial)⟩⟩ rfl rfl hl.1 rfl (lv_room (Nat.le_of_ble_eq_true rfl)) dX3_readSum_23 ⟨Nat.le_of_ble_eq_true rfl, Nat.le_of_ble_eq_true rfl⟩) hS (fun q _ h => hFc q h) hFc (fun ra106 u t H1 locs ht hvm hwra106 hB hz1 hk1 hS => ?_)
          obtain ⟨x107, hP1, hK1, hD1⟩ := hB
          rw [ht] at hP1
          obtain ⟨hP, hD⟩ := va_join (wr := (wd_b958b9da h0 h1 h3 x93 h3 g1 fn97)) (w1 := (wd_82cdd16b h1 h2 v1 x107 x95 x96 h2 g0 f5)) hP hD [1, 2] [0, 3] rfl rfl (by decide) (by decide) hk1 hFc hP1 hD1
          generalize H1 = H at hP hS ⊢
          have hP := hP.sub (ws' := (wd_1ad0248d h0 h1 h3 x93 h1 h2 v1 x107 x95 x96 h2 g0 f5 h3 g1 fn97)) [0, 2, 3, 1] rfl
          have hD := hD.sub (ws' := (wd_1ad0248d h0 h1 h3 x93 h1 h2 v1 x107 x95 x96 h2 g0 f5 h3 g1 fn97)) [0, 2, 3, 1] (by decide) rfl
          have hP : va_P (dC, dI) vwCl (wd_1ad0248d h0 h1 h3 x93 h1 h2 v1 x107 x95 x96 h2 g0 f5 h3 g1 fn97) H := hP
          have hD : va_D A (wd_1ad0248d h0 h1 h3 x93 h1 h2 v1 x107 x95 x96 h2 g0 f5 h3 g1 fn97) := hD
          refine lv_istore_n (lv' := [(3, .int ra106), (2, .int x92), (0, .ref h0), (1, .int 4)]) hx hb dX3_readSum_26 rfl hl (by decide) rfl (fun ls hl => ?_)
          refine lv_iload_n hx hb dX3_readSum_27 rfl (lv_at hl 0 rfl) ?_
          refine lv_bipush (v := 43) hx hb dX3_readSum_28 (by decide) ?_
          refine lv_icmp_eq (tgt := 41) hx hb dX3_readSum_30 (by decide) (fun c108 => ?_) (fun c108 => ?_)
          · skip
            have fc108 : ra106.toInt = 43 := congrArg Int32.toInt c108
            refine lv_aload_n hx hb dX3_readSum_41 rfl (lv_at hl 2 rfl) ?_
            refine va_get (D := (dC, dI)) (ci := 3) (v := .ref h1) (C := RX3) (T := TX3) (N := 3) hx hb hts (fun _ h => List.mem_cons_of_mem _ (List.mem_append_left _ (List.mem_append_right _ h))) hown hK hP 0 rfl rfl 0 (by decide) (hts (.fieldLink RX3 19 "LeftArguments$LawReader" "tape" "LLeftArguments$Tape;") (List.mem_cons_of_mem _ (List.mem_append_left _ (List.mem_append_left _ (List.mem_of_getElem? (i := 2) rfl))))) (fun _ h9 => h9) rfl dX3_readSum_42 ?_
            have hPc := hP.sub (ws' := (wd_09b0abee h1 h2 v1 x107 x95 x96)) [1] rfl
            have hDc := hD.sub (ws' := (wd_09b0abee h1 h2 v1 x107 x95 x96)) [1] (by decide) rfl
            have hKc := hK.sub (tys' := []) [] rfl
            have hFc := va_free (wc := (wd_09b0abee h1 h2 v1 x107 x95 x96)) hD hS hA [1] rfl
            refine va_callv (va_runV (As := []) (rest := []) ⟨hx, hb, hml, hown, hts⟩ (k_X10_step l dC dI h1 h2 v1 x107 x95 x96 ⟨by first | omega | decide, by first | omega | decide⟩ H.size) (cwV 0 hts g_X3_readSum_2_2 rfl rfl rfl (by decide +kernel) ⟨Nat.le_of_ble_eq_true rfl, Nat.le_of_ble_eq_true rfl⟩) ⟨fun a U g mk q => by obtain ⟨q0, q1, qP, qK, qD⟩ := q; exact ⟨q0, q1, qP, va_K.moved (u := U) (U := U.calling g mk a) (Vm.Alike.refl U.vm) qK, qD⟩, va_recv hKc hPc (ci := 10) (q0 := 0) rfl rfl, fun U hU hW => ⟨rfl, by rw [hU], by rw [hU]; exact hPc, va_K.moved hW.alike hKc, hDc.weaken (fun _ _ _ _ => trivial)⟩⟩ rfl rfl hl.1 rfl (lv_room (Nat.le_of_ble_eq_true rfl)) dX3_readSum_45 ⟨Nat.le_of_ble_eq_true rfl, Nat.le_of_ble_eq_true rfl⟩) hS (fun q _ h => hFc q h) hFc (fun u t H1 locs ht hvm hwra109 hB hz1 hk1 hS => ?_)
            obtain ⟨x110, hP1, hK1, hD1⟩ := hB
            rw [ht] at hP1
            obtain ⟨hP, hD⟩ := va_join (wr := (wd_6b0d8e05 h0 h1 h3 x93 h2 g0 f5 h3 g1 fn97)) (w1 := (wd_09b0abee h1 h2 v1 x110 x95 x96)) hP hD [1] [0, 2, 3] rfl rfl (by decide) (by decide) hk1 hFc hP1 hD1
            generalize H1 = H at hP hS ⊢
            have hP := hP.sub (ws' := (wd_1ad0248d h0 h1 h3 x93 h1 h2 v1 x110 x95 x96 h2 g0 f5 h3 g1 fn97)) [0, 3, 1, 2] rfl
            have hD := hD.sub (ws' := (wd_1ad0248d h0 h1 h3 x93 h1 h2 v1 x110 x95 x96 h2 g0 f5 h3 g1 fn97)) [0, 3, 1, 2] (by decide) rfl
            have hP : va_P (dC, dI) vwCl (wd_1ad0248d h0 h1 h3 x93 h1 h2 v1 x110 x95 x96 h2 g0 f5 h3 g1 fn97) H := hP
            have hD : va_D A (wd_1ad0248d h0 h1 h3 x93 h1 h2 v1 x110 x95 x96 h2 g0 f5 h3 g1 fn97) := hD
            refine lv_aload_n hx hb dX3_readSum_48 rfl (lv_at hl 2 rfl) ?_
            refine lv_iload_n hx hb dX3_readSum_49 rfl (lv_at hl 3 rfl) ?_
            have hPc := hP.sub (ws' := (wd_1ad0248d h0 h1 h3 x93 h1 h2 v1 x110 x95 x96 h2 g0 f5 h3 g1 fn97)) [0, 1, 2, 3] rfl
            have hDc := hD.sub (ws' := (wd_1ad0248d h0 h1 h3 x93 h1 h2 v1 x110 x95 x96 h2 g0 f5 h3 g1 fn97)) [0, 1, 2, 3] (by decide) rfl
            have hKc := hK.sub (tys' := [(g0, .int), (g1, .int)]) [0, 1] rfl
            have hFc := va_free (wc := (wd_1ad0248d h0 h1 h3 x93 h1 h2 v1 x110 x95 x96 h2 g0 f5 h3 g1 fn97)) hD hS hA [0, 1, 2, 3] rfl
            refine va_calli (va_runV (As := [.int 4]) (rest := []) ⟨hx, hb, hml, hown, hts⟩ (k_X3_readTerm_2 l dC dI adK adV h0 h1 h2 h3 x93 v1 x110 x95 x96 g0 f5 g1 fn97 ⟨by first | omega | decide, by first | omega | decide⟩ ⟨by first | omega | decide, by first | omega | decide⟩ H.size) (cwV 1 hts g_X3_readSum_2_0 rfl rfl rfl (by decide +kernel) ⟨Nat.le_of_ble_eq_true rfl, Nat.le_of_ble_eq_true rfl⟩) ⟨fun a U g mk q => by obtain ⟨q0, q1, qP, qK, qD, n0, n1, n2⟩ := q; exact ⟨q0, q1, qP, va_K.moved (u := U) (U := U.calling g mk a) (Vm.Alike.refl U.vm) qK, qD, vk_R.same rfl n0, va_Z.moved (Vm.Alike.refl _) n1, vk_S.moved (Vm.Alike.refl _) n2⟩, va_recv hKc hPc (ci := 3) (q0 := 0) rfl rfl, fun U hU hW => ⟨rfl, by rw [hU], by rw [hU]; exact hPc, va_K.moved hW.alike hKc, hDc.weaken (fun _ _ _ _ => trivial), vk_R.warm hW h_vr_2, (by rw [hU]; exact (va_Z.moved hW.alike (va_Z.kept h_st_CS hS.2.1)).narrow hFc), (by rw [hU]; exact (vk_S.moved hW.alike (vk_S.kept h_st_S hS.2.1)).narrow hFc)⟩⟩ rfl rfl hl.1 rfl (lv_room (Nat.le_of_ble_eq_true rfl)) dX3_readSum_50 ⟨Nat.le_of_ble_eq_true rfl, Nat.le_of_ble_eq_true rfl⟩) hS (fun q _ h => hFc q h) hFc (fun ra111 u t H1 locs ht hvm hwra111 hB hz1 hk1 hS => ?_)
            obtain ⟨x112, x113, x114, x115, fn116, oa_x112, ob_x112, hP1, hK1, hD1⟩ := hB
            rw [ht] at hP1
            obtain ⟨hP, hD⟩ := va_join (wr := []) (w1 := (wd_1ad0248d h0 h1 h3 x112 h1 h2 v1 x113 x114 x115 h2 g0 f5 h3 g1 fn116)) hP hD [0, 1, 2, 3] [] rfl rfl (by decide) (by decide) hk1 hFc hP1 hD1
            generalize H1 = H at hP hS ⊢
            have hP : va_P (dC, dI) vwCl (wd_1ad0248d h0 h1 h3 x112 h1 h2 v1 x113 x114 x115 h2 g0 f5 h3 g1 fn116) H := hP
            have hD : va_D A (wd_1ad0248d h0 h1 h3 x112 h1 h2 v1 x113 x114 x115 h2 g0 f5 h3 g1 fn116) := hD
            obtain ⟨wa_ra111, wb_ra111⟩ := hwra111
            have wa_ra111 : 0 ≤ ra111.toInt := wa_ra111
            have wb_ra111 : ra111.toInt ≤ 1 := wb_ra111
            refine lv_if_ne (tgt := 58) hx hb dX3_readSum_53 (by decide) (fun c117 => ?_) (fun c117 => ?_)
            · skip
              have fc117 : ¬ (ra111.toInt = 0) := fun h9 => c117 (Int32.toInt_inj.mp h9)
              refine lv_aload_n hx hb dX3_readSum_58 rfl (lv_at hl 2 rfl) ?_
              refine lv_iload_n hx hb dX3_readSum_59 rfl (lv_at hl 0 rfl) ?_
              refine lv_bipush (v := 43) hx hb dX3_readSum_60 (by decide) ?_
              refine lv_icmp_ne (tgt := 69) hx hb dX3_readSum_62 (by decide) (fun c118 => by exfalso; have fc118 : ¬ (ra106.toInt = 43) := fun h9 => c118 (Int32.toInt_inj.mp h9); omega) (fun _ => ?_)
              refine lv_iconst (v := 2) hx hb dX3_readSum_65 (by decide) ?_
              refine lv_goto (tgt := 70) hx hb dX3_readSum_66 (by decide) ?_
              refine lv_iconst (v := 0) hx hb dX3_readSum_70 (by decide) ?_
              have hPc := hP.sub (ws' := (wd_b958b9da h0 h1 h3 x112 h3 g1 fn116)) [0, 3] rfl
              have hDc := hD.sub (ws' := (wd_b958b9da h0 h1 h3 x112 h3 g1 fn116)) [0, 3] (by decide) rfl
              have hKc := hK.sub (tys' := [(g1, .int)]) [1] rfl
              have hFc := va_free (wc := (wd_b958b9da h0 h1 h3 x112 h3 g1 fn116)) hD hS hA [0, 3] rfl
              refine va_callv (va_runV (As := [.int 2, .int 0]) (rest := []) ⟨hx, hb, hml, hown, hts⟩ (k_X3_write l dC dI h0 h3 h1 x112 g1 fn116 2 0 ⟨by first | omega | decide, by first | omega | decide⟩ H.size) (cwV 2 hts g_X3_readSum_2_4 rfl rfl rfl (by decide +kernel) ⟨Nat.le_of_ble_eq_true rfl, Nat.le_of_ble_eq_true rfl⟩) ⟨fun a U g mk q => by obtain ⟨q0, q1, qP, qK, qD⟩ := q; exact ⟨q0, q1, qP, va_K.moved (u := U) (U := U.calling g mk a) (Vm.Alike.refl U.vm) qK, qD⟩, va_recv hKc hPc (ci := 3) (q0 := 0) rfl rfl, fun U hU hW => ⟨rfl, by rw [hU], by rw [hU]; exact hPc, va_K.moved hW.alike hKc, hDc.weaken (fun _ _ _ _ => trivial)⟩⟩ rfl rfl hl.1 rfl (lv_room (Nat.le_of_ble_eq_true rfl)) dX3_readSum_71 ⟨Nat.le_of_ble_eq_true rfl, Nat.le_of_ble_eq_true rfl⟩) hS (fun q _ h => hFc q h) hFc (fun u t H1 locs ht hvm hwra119 hB hz1 hk1 hS => ?_)
              obtain ⟨x120, fn121, oa_x120, ob_x120, hP1, hK1, hD1⟩ := hB
              rw [ht] at hP1
              obtain ⟨hP, hD⟩ := va_join (wr := (wd_82cdd16b h1 h2 v1 x113 x114 x115 h2 g0 f5)) (w1 := (wd_b958b9da h0 h1 h3 x120 h3 g1 fn121)) hP hD [0, 3] [1, 2] rfl rfl (by decide) (by decide) hk1 hFc hP1 hD1
              generalize H1 = H at hP hS ⊢
              have hP := hP.sub (ws' := (wd_1ad0248d h0 h1 h3 x120 h1 h2 v1 x113 x114 x115 h2 g0 f5 h3 g1 fn121)) [2, 0, 1, 3] rfl
              have hD := hD.sub (ws' := (wd_1ad0248d h0 h1 h3 x120 h1 h2 v1 x113 x114 x115 h2 g0 f5 h3 g1 fn121)) [2, 0, 1, 3] (by decide) rfl
              have hP : va_P (dC, dI) vwCl (wd_1ad0248d h0 h1 h3 x120 h1 h2 v1 x113 x114 x115 h2 g0 f5 h3 g1 fn121) H := hP
              have hD : va_D A (wd_1ad0248d h0 h1 h3 x120 h1 h2 v1 x113 x114 x115 h2 g0 f5 h3 g1 fn121) := hD
              obtain ⟨t122, et122⟩ : ∃ y : Int32, y = x92 + 1 := ⟨_, rfl⟩
              have gt122 : t122.toInt = x92.toInt + (1) := pv_add (a := x92.toInt) (b := (1)) et122 rfl (by decide) (by omega) (by omega)
              refine lv_iinc (v := t122) (lv' := [(2, .int t122), (3, .int ra106), (0, .ref h0), (1, .int 4)]) hx hb dX3_readSum_74 hl (k := 1) rfl (by rw [et122]; rfl) (by decide) rfl (fun ls hl => ?_)
              refine lv_goto (tgt := 12) hx hb dX3_readSum_77 (by decide) ?_
              exact ih_hL104 t122 x120 x113 x114 x115 fn121 H locs ls (by first | omega | decide) (by first | omega | decide) (by first | omega | decide) (by first | omega | decide) (by first | omega | (simp only [Int.toNat] at *; omega)) hP hD hS (lv_sub hl [0, 2, 3] rfl)
            · skip
              have fc117 : ra111.toInt = 0 := congrArg Int32.toInt c117
              refine lv_iconst (v := 0) hx hb dX3_readSum_56 (by decide) ?_
              subst hQ
              have hP9 := hP.sub (ws' := (wd_1ad0248d h0 h1 h3 x112 h1 h2 v1 x113 x114 x115 h2 g0 f5 h3 g1 fn116)) [0, 1, 2, 3] rfl
              have hD9 := hD.sub (ws' := (wd_1ad0248d h0 h1 h3 x112 h1 h2 v1 x113 x114 x115 h2 g0 f5 h3 g1 fn116)) [0, 1, 2, 3] (by decide) rfl
              have hK9 := hK.sub (tys' := []) [] rfl
              exact W.zret (v := 0) hx hb hr rfl (fun t ht hW => ⟨⟨0, (), rfl, ⟨by first | omega | decide, by first | omega | decide⟩, x112, x113, x114, x115, fn116, by first | omega | decide, by first | omega | decide, by rw [ht]; exact hP9, va_K.moved hW.alike hK9, hD9⟩, hS.F ht⟩) hS.2.2 dX3_readSum_57
          · skip
            have fc108 : ¬ (ra106.toInt = 43) := fun h9 => c108 (Int32.toInt_inj.mp h9)
            refine lv_iload_n hx hb dX3_readSum_33 rfl (lv_at hl 0 rfl) ?_
            refine lv_bipush (v := 45) hx hb dX3_readSum_34 (by decide) ?_
            refine lv_icmp_eq (tgt := 41) hx hb dX3_readSum_36 (by decide) (fun c123 => ?_) (fun c123 => ?_)
            · skip
              have fc123 : ra106.toInt = 45 := congrArg Int32.toInt c123
              refine lv_aload_n hx hb dX3_readSum_41 rfl (lv_at hl 2 rfl) ?_
              refine va_get (D := (dC, dI)) (ci := 3) (v := .ref h1) (C := RX3) (T := TX3) (N := 3) hx hb hts (fun _ h => List.mem_cons_of_mem _ (List.mem_append_left _ (List.mem_append_right _ h))) hown hK hP 0 rfl rfl 0 (by decide) (hts (.fieldLink RX3 19 "LeftArguments$LawReader" "tape" "LLeftArguments$Tape;") (List.mem_cons_of_mem _ (List.mem_append_left _ (List.mem_append_left _ (List.mem_of_getElem? (i := 2) rfl))))) (fun _ h9 => h9) rfl dX3_readSum_42 ?_
              have hPc := hP.sub (ws' := (wd_09b0abee h1 h2 v1 x107 x95 x96)) [1] rfl
              have hDc := hD.sub (ws' := (wd_09b0abee h1 h2 v1 x107 x95 x96)) [1] (by decide) rfl
              have hKc := hK.sub (tys' := []) [] rfl
              have hFc := va_free (wc := (wd_09b0abee h1 h2 v1 x107 x95 x96)) hD hS hA [1] rfl
              refine va_callv (va_runV (As := []) (rest := []) ⟨hx, hb, hml, hown, hts⟩ (k_X10_step l dC dI h1 h2 v1 x107 x95 x96 ⟨by first | omega | decide, by first | omega | decide⟩ H.size) (cwV 0 hts g_X3_readSum_2_2 rfl rfl rfl (by decide +kernel) ⟨Nat.le_of_ble_eq_true rfl, Nat.le_of_ble_eq_true rfl⟩) ⟨fun a U g mk q => by obtain ⟨q0, q1, qP, qK, qD⟩ := q; exact ⟨q0, q1, qP, va_K.moved (u := U) (U := U.calling g mk a) (Vm.Alike.refl U.vm) qK, qD⟩, va_recv hKc hPc (ci := 10) (q0 := 0) rfl rfl, fun U hU hW => ⟨rfl, by rw [hU], by rw [hU]; exact hPc, va_K.moved hW.alike hKc, hDc.weaken (fun _ _ _ _ => trivial)⟩⟩ rfl rfl hl.1 rfl (lv_room (Nat.le_of_ble_eq_true rfl)) dX3_readSum_45 ⟨Nat.le_of_ble_eq_true rfl, Nat.le_of_ble_eq_true rfl⟩) hS (fun q _ h => hFc q h) hFc (fun u t H1 locs ht hvm hwra124 hB hz1 hk1 hS => ?_)
              obtain ⟨x125, hP1, hK1, hD1⟩ := hB
              rw [ht] at hP1
              obtain ⟨hP, hD⟩ := va_join (wr := (wd_6b0d8e05 h0 h1 h3 x93 h2 g0 f5 h3 g1 fn97)) (w1 := (wd_09b0abee h1 h2 v1 x125 x95 x96)) hP hD [1] [0, 2, 3] rfl rfl (by decide) (by decide) hk1 hFc hP1 hD1
              generalize H1 = H at hP hS ⊢
              have hP := hP.sub (ws' := (wd_1ad0248d h0 h1 h3 x93 h1 h2 v1 x125 x95 x96 h2 g0 f5 h3 g1 fn97)) [0, 3, 1, 2] rfl
              have hD := hD.sub (ws' := (wd_1ad0248d h0 h1 h3 x93 h1 h2 v1 x125 x95 x96 h2 g0 f5 h3 g1 fn97)) [0, 3, 1, 2] (by decide) rfl
              have hP : va_P (dC, dI) vwCl (wd_1ad0248d h0 h1 h3 x93 h1 h2 v1 x125 x95 x96 h2 g0 f5 h3 g1 fn97) H := hP
              have hD : va_D A (wd_1ad0248d h0 h1 h3 x93 h1 h2 v1 x125 x95 x96 h2 g0 f5 h3 g1 fn97) := hD
              refine lv_aload_n hx hb dX3_readSum_48 rfl (lv_at hl 2 rfl) ?_
              refine lv_iload_n hx hb dX3_readSum_49 rfl (lv_at hl 3 rfl) ?_
              have hPc := hP.sub (ws' := (wd_1ad0248d h0 h1 h3 x93 h1 h2 v1 x125 x95 x96 h2 g0 f5 h3 g1 fn97)) [0, 1, 2, 3] rfl
              have hDc := hD.sub (ws' := (wd_1ad0248d h0 h1 h3 x93 h1 h2 v1 x125 x95 x96 h2 g0 f5 h3 g1 fn97)) [0, 1, 2, 3] (by decide) rfl
              have hKc := hK.sub (tys' := [(g0, .int), (g1, .int)]) [0, 1] rfl
              have hFc := va_free (wc := (wd_1ad0248d h0 h1 h3 x93 h1 h2 v1 x125 x95 x96 h2 g0 f5 h3 g1 fn97)) hD hS hA [0, 1, 2, 3] rfl
              refine va_calli (va_runV (As := [.int 4]) (rest := []) ⟨hx, hb, hml, hown, hts⟩ (k_X3_readTerm_2 l dC dI adK adV h0 h1 h2 h3 x93 v1 x125 x95 x96 g0 f5 g1 fn97 ⟨by first | omega | decide, by first | omega | decide⟩ ⟨by first | omega | decide, by first | omega | decide⟩ H.size) (cwV 1 hts g_X3_readSum_2_0 rfl rfl rfl (by decide +kernel) ⟨Nat.le_of_ble_eq_true rfl, Nat.le_of_ble_eq_true rfl⟩) ⟨fun a U g mk q => by obtain ⟨q0, q1, qP, qK, qD, n0, n1, n2⟩ := q; exact ⟨q0, q1, qP, va_K.moved (u := U) (U := U.calling g mk a) (Vm.Alike.refl U.vm) qK, qD, vk_R.same rfl n0, va_Z.moved (Vm.Alike.refl _) n1, vk_S.moved (Vm.Alike.refl _) n2⟩, va_recv hKc hPc (ci := 3) (q0 := 0) rfl rfl, fun U hU hW => ⟨rfl, by rw [hU], by rw [hU]; exact hPc, va_K.moved hW.alike hKc, hDc.weaken (fun _ _ _ _ => trivial), vk_R.warm hW h_vr_2, (by rw [hU]; exact (va_Z.moved hW.alike (va_Z.kept h_st_CS hS.2.1)).narrow hFc), (by rw [hU]; exact (vk_S.moved hW.alike (vk_S.kept h_st_S hS.2.1)).narrow hFc)⟩⟩ rfl rfl hl.1 rfl (lv_room (Nat.le_of_ble_eq_true rfl)) dX3_readSum_50 ⟨Nat.le_of_ble_eq_true rfl, Nat.le_of_ble_eq_true rfl⟩) hS (fun q _ h => hFc q h) hFc (fun ra126 u t H1 locs ht hvm hwra126 hB hz1 hk1 hS => ?_)
              obtain ⟨x127, x128, x129, x130, fn131, oa_x127, ob_x127, hP1, hK1, hD1⟩ := hB
              rw [ht] at hP1
              obtain ⟨hP, hD⟩ := va_join (wr := []) (w1 := (wd_1ad0248d h0 h1 h3 x127 h1 h2 v1 x128 x129 x130 h2 g0 f5 h3 g1 fn131)) hP hD [0, 1, 2, 3] [] rfl rfl (by decide) (by decide) hk1 hFc hP1 hD1
              generalize H1 = H at hP hS ⊢
              have hP : va_P (dC, dI) vwCl (wd_1ad0248d h0 h1 h3 x127 h1 h2 v1 x128 x129 x130 h2 g0 f5 h3 g1 fn131) H := hP
              have hD : va_D A (wd_1ad0248d h0 h1 h3 x127 h1 h2 v1 x128 x129 x130 h2 g0 f5 h3 g1 fn131) := hD
              obtain ⟨wa_ra126, wb_ra126⟩ := hwra126
              have wa_ra126 : 0 ≤ ra126.toInt := wa_ra126
              have wb_ra126 : ra126.toInt ≤ 1 := wb_ra126
              refine lv_if_ne (tgt := 58) hx hb dX3_readSum_53 (by decide) (fun c132 => ?_) (fun c132 => ?_)
              · skip
                have fc132 : ¬ (ra126.toInt = 0) := fun h9 => c132 (Int32.toInt_inj.mp h9)
                refine lv_aload_n hx hb dX3_readSum_58 rfl (lv_at hl 2 rfl) ?_
                refine lv_iload_n hx hb dX3_readSum_59 rfl (lv_at hl 0 rfl) ?_
                refine lv_bipush (v := 43) hx hb dX3_readSum_60 (by decide) ?_
                refine lv_icmp_ne (tgt := 69) hx hb dX3_readSum_62 (by decide) (fun _ => ?_) (fun c133 => by exfalso; have fc133 : ra106.toInt = 43 := congrArg Int32.toInt c133; omega)
                refine lv_iconst (v := 3) hx hb dX3_readSum_69 (by decide) ?_
                refine lv_iconst (v := 0) hx hb dX3_readSum_70 (by decide) ?_
                have hPc := hP.sub (ws' := (wd_b958b9da h0 h1 h3 x127 h3 g1 fn131)) [0, 3] rfl
                have hDc := hD.sub (ws' := (wd_b958b9da h0 h1 h3 x127 h3 g1 fn131)) [0, 3] (by decide) rfl
                have hKc := hK.sub (tys' := [(g1, .int)]) [1] rfl
                have hFc := va_free (wc := (wd_b958b9da h0 h1 h3 x127 h3 g1 fn131)) hD hS hA [0, 3] rfl
                refine va_callv (va_runV (As := [.int 3, .int 0]) (rest := []) ⟨hx, hb, hml, hown, hts⟩ (k_X3_write l dC dI h0 h3 h1 x127 g1 fn131 3 0 ⟨by first | omega | decide, by first | omega | decide⟩ H.size) (cwV 2 hts g_X3_readSum_2_4 rfl rfl rfl (by decide +kernel) ⟨Nat.le_of_ble_eq_true rfl, Nat.le_of_ble_eq_true rfl⟩) ⟨fun a U g mk q => by obtain ⟨q0, q1, qP, qK, qD⟩ := q; exact ⟨q0, q1, qP, va_K.moved (u := U) (U := U.calling g mk a) (Vm.Alike.refl U.vm) qK, qD⟩, va_recv hKc hPc (ci := 3) (q0 := 0) rfl rfl, fun U hU hW => ⟨rfl, by rw [hU], by rw [hU]; exact hPc, va_K.moved hW.alike hKc, hDc.weaken (fun _ _ _ _ => trivial)⟩⟩ rfl rfl hl.1 rfl (lv_room (Nat.le_of_ble_eq_true rfl)) dX3_readSum_71 ⟨Nat.le_of_ble_eq_true rfl, Nat.le_of_ble_eq_true rfl⟩) hS (fun q _ h => hFc q h) hFc (fun u t H1 locs ht hvm hwra134 hB hz1 hk1 hS => ?_)
                obtain ⟨x135, fn136, oa_x135, ob_x135, hP1, hK1, hD1⟩ := hB
                rw [ht] at hP1
                obtain ⟨hP, hD⟩ := va_join (wr := (wd_82cdd16b h1 h2 v1 x128 x129 x130 h2 g0 f5)) (w1 := (wd_b958b9da h0 h1 h3 x135 h3 g1 fn136)) hP hD [0, 3] [1, 2] rfl rfl (by decide) (by decide) hk1 hFc hP1 hD1
                generalize H1 = H at hP hS ⊢
                have hP := hP.sub (ws' := (wd_1ad0248d h0 h1 h3 x135 h1 h2 v1 x128 x129 x130 h2 g0 f5 h3 g1 fn136)) [2, 0, 1, 3] rfl
                have hD := hD.sub (ws' := (wd_1ad0248d h0 h1 h3 x135 h1 h2 v1 x128 x129 x130 h2 g0 f5 h3 g1 fn136)) [2, 0, 1, 3] (by decide) rfl
                have hP : va_P (dC, dI) vwCl (wd_1ad0248d h0 h1 h3 x135 h1 h2 v1 x128 x129 x130 h2 g0 f5 h3 g1 fn136) H := hP
                have hD : va_D A (wd_1ad0248d h0 h1 h3 x135 h1 h2 v1 x128 x129 x130 h2 g0 f5 h3 g1 fn136) := hD
                obtain ⟨t137, et137⟩ : ∃ y : Int32, y = x92 + 1 := ⟨_, rfl⟩
                have gt137 : t137.toInt = x92.toInt + (1) := pv_add (a := x92.toInt) (b := (1)) et137 rfl (by decide) (by omega) (by omega)
                refine lv_iinc (v := t137) (lv' := [(2, .int t137), (3, .int ra106), (0, .ref h0), (1, .int 4)]) hx hb dX3_readSum_74 hl (k := 1) rfl (by rw [et137]; rfl) (by decide) rfl (fun ls hl => ?_)
                refine lv_goto (tgt := 12) hx hb dX3_readSum_77 (by decide) ?_
                exact ih_hL104 t137 x135 x128 x129 x130 fn136 H locs ls (by first | omega | decide) (by first | omega | decide) (by first | omega | decide) (by first | omega | decide) (by first | omega | (simp only [Int.toNat] at *; omega)) hP hD hS (lv_sub hl [0, 2, 3] rfl)
              · skip
                have fc132 : ra126.toInt = 0 := congrArg Int32.toInt c132
                refine lv_iconst (v := 0) hx hb dX3_readSum_56 (by decide) ?_
                subst hQ
                have hP9 := hP.sub (ws' := (wd_1ad0248d h0 h1 h3 x127 h1 h2 v1 x128 x129 x130 h2 g0 f5 h3 g1 fn131)) [0, 1, 2, 3] rfl
                have hD9 := hD.sub (ws' := (wd_1ad0248d h0 h1 h3 x127 h1 h2 v1 x128 x129 x130 h2 g0 f5 h3 g1 fn131)) [0, 1, 2, 3] (by decide) rfl
                have hK9 := hK.sub (tys' := []) [] rfl
                exact W.zret (v := 0) hx hb hr rfl (fun t ht hW => ⟨⟨0, (), rfl, ⟨by first | omega | decide, by first | omega | decide⟩, x127, x128, x129, x130, fn131, by first | omega | decide, by first | omega | decide, by rw [ht]; exact hP9, va_K.moved hW.alike hK9, hD9⟩, hS.F ht⟩) hS.2.2 dX3_readSum_57
            · skip
              have fc123 : ¬ (ra106.toInt = 45) := fun h9 => c123 (Int32.toInt_inj.mp h9)
              refine lv_iconst (v := 1) hx hb dX3_readSum_39 (by decide) ?_
              subst hQ
              have hP9 := hP.sub (ws' := (wd_1ad0248d h0 h1 h3 x93 h1 h2 v1 x107 x95 x96 h2 g0 f5 h3 g1 fn97)) [0, 1, 2, 3] rfl
              have hD9 := hD.sub (ws' := (wd_1ad0248d h0 h1 h3 x93 h1 h2 v1 x107 x95 x96 h2 g0 f5 h3 g1 fn97)) [0, 1, 2, 3] (by decide) rfl
              have hK9 := hK.sub (tys' := []) [] rfl
              exact W.zret (v := 1) hx hb hr rfl (fun t ht hW => ⟨⟨1, (), rfl, ⟨by first | omega | decide, by first | omega | decide⟩, x93, x107, x95, x96, fn97, by first | omega | decide, by first | omega | decide, by rw [ht]; exact hP9, va_K.moved hW.alike hK9, hD9⟩, hS.F ht⟩) hS.2.2 dX3_readSum_40
    exact hL104 _ 0 x2 x3 x4 x5 fn6 H locs ls (by first | omega | decide) (by first | omega | decide) (by first | omega | decide) (by first | omega | decide) (Nat.lt_succ_self _) hP hD hS (lv_sub hl [0, 1, 2] rfl)
  · skip
    have fc7 : ra1.toInt = 0 := congrArg Int32.toInt c7
    refine lv_iconst (v := 0) hx hb dX3_readSum_8 (by decide) ?_
    subst hQ
    have hP9 := hP.sub (ws' := (wd_1ad0248d h0 h1 h3 x2 h1 h2 v1 x3 x4 x5 h2 g0 f5 h3 g1 fn6)) [0, 1, 2, 3] rfl
    have hD9 := hD.sub (ws' := (wd_1ad0248d h0 h1 h3 x2 h1 h2 v1 x3 x4 x5 h2 g0 f5 h3 g1 fn6)) [0, 1, 2, 3] (by decide) rfl
    have hK9 := hK.sub (tys' := []) [] rfl
    exact W.zret (v := 0) hx hb hr rfl (fun t ht hW => ⟨⟨0, (), rfl, ⟨by first | omega | decide, by first | omega | decide⟩, x2, x3, x4, x5, fn6, by first | omega | decide, by first | omega | decide, by rw [ht]; exact hP9, va_K.moved hW.alike hK9, hD9⟩, hS.F ht⟩) hS.2.2 dX3_readSum_9
def q_X3_readAtom_3 : List Cond := .code yX3_readAtom cX3_readAtom 4 (some .boolean) :: (([.fieldLink RX3 19 "LeftArguments$LawReader" "tape" "LLeftArguments$Tape;", .code yX10_next cX10_next 1 (some .int), .fieldLink RX10 19 "LeftArguments$Tape" "at" "I", .fieldLink RX10 15 "LeftArguments$Tape" "used" "I", .fieldLink RX10 9 "LeftArguments$Tape" "bytes" "[I", .initialized RX10, .instanceMethod yX10_next, .selects RX10 yX10_next yX10_next, .methodLink RX3 48 yX10_next, .code yX10_isDigit cX10_isDigit 1 (some .boolean), .static yX10_isDigit, .methodLink RX3 92 yX10_isDigit, .code yX10_step cX10_step 1 none, .instanceMethod yX10_step, .selects RX10 yX10_step yX10_step, .methodLink RX3 77 yX10_step, .code yX3_write cX3_write 3 none, .fieldLink RX3 15 "LeftArguments$LawReader" "used" "I", .fieldLink RX3 11 "LeftArguments$LawReader" "code" "[I", .initialized RX3, .instanceMethod yX3_write, .selects RX3 yX3_write yX3_write, .methodLink RX3 66 yX3_write, .code yX10_wrongHere cX10_wrongHere 1 (some .boolean), .fieldLink RX10 22 "LeftArguments$Tape" "wrongAt" "I", .instanceMethod yX10_wrongHere, .selects RX10 yX10_wrongHere yX10_wrongHere, .methodLink RX3 83 yX10_wrongHere, .code yJ0_indexOf_0f7a4 cJ0_indexOf_0f7a4 2 (some .int), .code yJ0_indexOf_7cf53 cJ0_indexOf_7cf53 3 (some .int), .code yJ0_isLatin1_aae02 cJ0_isLatin1_aae02 1 (some .boolean), .fieldLink RJ0 38 "java/lang/String" "COMPACT_STRINGS" "Z", .fieldLink RJ0 15 "java/lang/String" "coder" "B", .initialized RJ0, .instanceMethod yJ0_isLatin1_aae02, .selects RJ0 yJ0_isLatin1_aae02 yJ0_isLatin1_aae02, .methodLink RJ0 492 yJ0_isLatin1_aae02, .fieldLink RJ0 9 "java/lang/String" "value" "[B", .code yJ0_length_8abf5 cJ0_length_8abf5 1 (some .int), .code yJ0_coder_7d493 cJ0_coder_7d493 1 (some .byte), .instanceMethod yJ0_coder_7d493, .selects RJ0 yJ0_coder_7d493 yJ0_coder_7d493, .methodLink RJ0 335 yJ0_coder_7d493, .instanceMethod yJ0_length_8abf5, .selects RJ0 yJ0_length_8abf5 yJ0_length_8abf5, .methodLink RJ0 505 yJ0_length_8abf5, .code yJ1_indexOf_4cfef cJ1_indexOf_4cfef 4 (some .int), .code yJ1_canEncode_9a6ad cJ1_canEncode_9a6ad 1 (some .boolean), .initialized RJ1, .static yJ1_canEncode_9a6ad, .methodLink RJ1 88 yJ1_canEncode_9a6ad, .methodLink RJ1 92 Lib.Math.max.name, .static Lib.Math.max.name, .initialized "java/lang/Math", .code Lib.Math.max.name Lib.Math.max.code 2 (some .int), .methodLink RJ1 38 Lib.Math.min.name, .static Lib.Math.min.name, .code Lib.Math.min.name Lib.Math.min.code 2 (some .int), .code yJ1_indexOfChar_4cfef cJ1_indexOfChar_4cfef 6 (some .int), .static yJ1_indexOfChar_4cfef, .methodLink RJ1 95 yJ1_indexOfChar_4cfef, .static yJ1_indexOf_4cfef, .methodLink RJ0 637 yJ1_indexOf_4cfef, .instanceMethod yJ0_indexOf_7cf53, .selects RJ0 yJ0_indexOf_7cf53 yJ0_indexOf_7cf53, .methodLink RJ0 633 yJ0_indexOf_7cf53, .instanceMethod yJ0_indexOf_0f7a4, .selects RJ0 yJ0_indexOf_0f7a4 yJ0_indexOf_0f7a4, .methodLink RX3 103 yJ0_indexOf_0f7a4, .code yX10_takeNumber cX10_takeNumber 3 (some .boolean), .methodLink RX10 37 yX10_next, .methodLink RX10 45 yX10_isDigit, .fieldLink RX10 25 "LeftArguments$Tape" "number" "I", .code yX10_sign cX10_sign 1 (some .int), .instanceMethod yX10_sign, .selects RX10 yX10_sign yX10_sign, .methodLink RX10 49 yX10_sign, .methodLink RX10 41 yX10_wrongHere, .instanceMethod yX10_takeNumber, .selects RX10 yX10_takeNumber yX10_takeNumber, .methodLink RX3 95 yX10_takeNumber, .code yX10_number cX10_number 1 (some .int), .instanceMethod yX10_number, .selects RX10 yX10_number yX10_number, .methodLink RX3 98 yX10_number, .code yX3_readSum cX3_readSum 4 (some .boolean), .code yX3_readTerm cX3_readTerm 4 (some .boolean), .code yX3_readAtom cX3_readAtom 4 (some .boolean), .instanceMethod yX3_readAtom, .selects RX3 yX3_readAtom yX3_readAtom, .methodLink RX3 89 yX3_readAtom, .instanceMethod yX3_readTerm, .selects RX3 yX3_readTerm yX3_readTerm, .methodLink RX3 86 yX3_readTerm, .instanceMethod yX3_readSum, .selects RX3 yX3_readSum yX3_readSum, .methodLink RX3 59 yX3_readSum, .code yX10_take cX10_take 2 (some .boolean), .instanceMethod yX10_take, .selects RX10 yX10_take yX10_take, .methodLink RX3 51 yX10_take] : List Cond) ++ wsX30 ++ wsX100)
set_option maxRecDepth 20000 in
theorem g_X3_readAtom_3_0 : GoodIn q_X3_readAtom_3 (wsV RX3 48 RX10 yX10_next q_X10_next) := goodIn_app (goodIn_r _ [9, 7, 8, 6] rfl (by decide +kernel)) (goodIn_ca (goodIn_r (.code yX10_next cX10_next 1 (some .int) :: [.fieldLink RX10 19 "LeftArguments$Tape" "at" "I", .fieldLink RX10 15 "LeftArguments$Tape" "used" "I", .fieldLink RX10 9 "LeftArguments$Tape" "bytes" "[I"]) [2, 3, 4, 5] rfl (by decide +kernel)) (goodIn_sub (fun _ h => List.mem_cons_of_mem _ (List.mem_append_right _ h)) gwX10))
set_option maxRecDepth 20000 in
theorem g_X3_readAtom_3_1 : GoodIn q_X3_readAtom_3 (va_wsS RX3 92 yX10_isDigit q_X10_isDigit) := goodIn_app (goodIn_r _ [12, 11, 6] rfl (by decide +kernel)) (goodIn_r (.code yX10_isDigit cX10_isDigit 1 (some .boolean) :: []) [10] rfl (by decide +kernel))
set_option maxRecDepth 20000 in
theorem g_X3_readAtom_3_2 : GoodIn q_X3_readAtom_3 (wsV RX3 77 RX10 yX10_step q_X10_step) := goodIn_app (goodIn_r _ [16, 14, 15, 6] rfl (by decide +kernel)) (goodIn_ca (goodIn_r (.code yX10_step cX10_step 1 none :: [.fieldLink RX10 19 "LeftArguments$Tape" "at" "I"]) [13, 3] rfl (by decide +kernel)) (goodIn_sub (fun _ h => List.mem_cons_of_mem _ (List.mem_append_right _ h)) gwX10))
set_option maxRecDepth 20000 in
theorem g_X3_readAtom_3_3 : GoodIn q_X3_readAtom_3 (wsV RX3 66 RX3 yX3_write q_X3_write) := goodIn_app (goodIn_r _ [23, 21, 22, 20] rfl (by decide +kernel)) (goodIn_ca (goodIn_r (.code yX3_write cX3_write 3 none :: [.fieldLink RX3 15 "LeftArguments$LawReader" "used" "I", .fieldLink RX3 11 "LeftArguments$LawReader" "code" "[I"]) [17, 18, 19] rfl (by decide +kernel)) (goodIn_sub (fun _ h => List.mem_cons_of_mem _ (List.mem_append_left _ (List.mem_append_right _ h))) gwX3))
set_option maxRecDepth 20000 in
theorem g_X3_readAtom_3_4 : GoodIn q_X3_readAtom_3 (wsV RX3 83 RX10 yX10_wrongHere q_X10_wrongHere) := goodIn_app (goodIn_r _ [28, 26, 27, 6] rfl (by decide +kernel)) (goodIn_ca (goodIn_r (.code yX10_wrongHere cX10_wrongHere 1 (some .boolean) :: [.fieldLink RX10 19 "LeftArguments$Tape" "at" "I", .fieldLink RX10 22 "LeftArguments$Tape" "wrongAt" "I"]) [24, 3, 25] rfl (by decide +kernel)) (goodIn_sub (fun _ h => List.mem_cons_of_mem _ (List.mem_append_right _ h)) gwX10))
set_option maxRecDepth 20000 in
theorem g_X3_readAtom_3_5 : GoodIn q_X3_readAtom_3 (wsV RX3 103 RJ0 yJ0_indexOf_0f7a4 q_J0_indexOf_0f7a4) := goodIn_app (goodIn_r _ [69, 67, 68, 34] rfl (by decide +kernel)) (goodIn_r (.code yJ0_indexOf_0f7a4 cJ0_indexOf_0f7a4 2 (some .int) :: [.code yJ0_indexOf_7cf53 cJ0_indexOf_7cf53 3 (some .int), .code yJ0_isLatin1_aae02 cJ0_isLatin1_aae02 1 (some .boolean), .fieldLink RJ0 38 "java/lang/String" "COMPACT_STRINGS" "Z", .fieldLink RJ0 15 "java/lang/String" "coder" "B", .initialized RJ0, .instanceMethod yJ0_isLatin1_aae02, .selects RJ0 yJ0_isLatin1_aae02 yJ0_isLatin1_aae02, .methodLink RJ0 492 yJ0_isLatin1_aae02, .fieldLink RJ0 9 "java/lang/String" "value" "[B", .code yJ0_length_8abf5 cJ0_length_8abf5 1 (some .int), .code yJ0_coder_7d493 cJ0_coder_7d493 1 (some .byte), .instanceMethod yJ0_coder_7d493, .selects RJ0 yJ0_coder_7d493 yJ0_coder_7d493, .methodLink RJ0 335 yJ0_coder_7d493, .instanceMethod yJ0_length_8abf5, .selects RJ0 yJ0_length_8abf5 yJ0_length_8abf5, .methodLink RJ0 505 yJ0_length_8abf5, .code yJ1_indexOf_4cfef cJ1_indexOf_4cfef 4 (some .int), .code yJ1_canEncode_9a6ad cJ1_canEncode_9a6ad 1 (some .boolean), .initialized RJ1, .static yJ1_canEncode_9a6ad, .methodLink RJ1 88 yJ1_canEncode_9a6ad, .methodLink RJ1 92 Lib.Math.max.name, .static Lib.Math.max.name, .initialized "java/lang/Math", .code Lib.Math.max.name Lib.Math.max.code 2 (some .int), .methodLink RJ1 38 Lib.Math.min.name, .static Lib.Math.min.name, .code Lib.Math.min.name Lib.Math.min.code 2 (some .int), .code yJ1_indexOfChar_4cfef cJ1_indexOfChar_4cfef 6 (some .int), .static yJ1_indexOfChar_4cfef, .methodLink RJ1 95 yJ1_indexOfChar_4cfef, .static yJ1_indexOf_4cfef, .methodLink RJ0 637 yJ1_indexOf_4cfef, .instanceMethod yJ0_indexOf_7cf53, .selects RJ0 yJ0_indexOf_7cf53 yJ0_indexOf_7cf53, .methodLink RJ0 633 yJ0_indexOf_7cf53]) [29, 30, 31, 32, 33, 34, 35, 36, 37, 38, 39, 40, 41, 42, 43, 44, 45, 46, 47, 48, 49, 50, 51, 52, 53, 54, 55, 56, 57, 58, 59, 60, 61, 62, 63, 64, 65, 66] rfl (by decide +kernel))
set_option maxRecDepth 20000 in
theorem g_X3_readAtom_3_6 : GoodIn q_X3_readAtom_3 (wsV RX3 95 RX10 yX10_takeNumber q_X10_takeNumber) := goodIn_app (goodIn_r _ [81, 79, 80, 6] rfl (by decide +kernel)) (goodIn_ca (goodIn_r (.code yX10_takeNumber cX10_takeNumber 3 (some .boolean) :: [.code yX10_next cX10_next 1 (some .int), .fieldLink RX10 19 "LeftArguments$Tape" "at" "I", .fieldLink RX10 15 "LeftArguments$Tape" "used" "I", .fieldLink RX10 9 "LeftArguments$Tape" "bytes" "[I", .initialized RX10, .instanceMethod yX10_next, .selects RX10 yX10_next yX10_next, .methodLink RX10 37 yX10_next, .code yX10_isDigit cX10_isDigit 1 (some .boolean), .static yX10_isDigit, .methodLink RX10 45 yX10_isDigit, .fieldLink RX10 25 "LeftArguments$Tape" "number" "I", .code yX10_sign cX10_sign 1 (some .int), .instanceMethod yX10_sign, .selects RX10 yX10_sign yX10_sign, .methodLink RX10 49 yX10_sign, .code yX10_wrongHere cX10_wrongHere 1 (some .boolean), .fieldLink RX10 22 "LeftArguments$Tape" "wrongAt" "I", .instanceMethod yX10_wrongHere, .selects RX10 yX10_wrongHere yX10_wrongHere, .methodLink RX10 41 yX10_wrongHere]) [70, 2, 3, 4, 5, 6, 7, 8, 71, 10, 11, 72, 73, 74, 75, 76, 77, 24, 25, 26, 27, 78] rfl (by decide +kernel)) (goodIn_sub (fun _ h => List.mem_cons_of_mem _ (List.mem_append_right _ h)) gwX10))
set_option maxRecDepth 20000 in
theorem g_X3_readAtom_3_7 : GoodIn q_X3_readAtom_3 (wsV RX3 98 RX10 yX10_number q_X10_number) := goodIn_app (goodIn_r _ [85, 83, 84, 6] rfl (by decide +kernel)) (goodIn_ca (goodIn_r (.code yX10_number cX10_number 1 (some .int) :: [.fieldLink RX10 25 "LeftArguments$Tape" "number" "I"]) [82, 73] rfl (by decide +kernel)) (goodIn_sub (fun _ h => List.mem_cons_of_mem _ (List.mem_append_right _ h)) gwX10))
set_option maxRecDepth 20000 in
theorem g_X3_readAtom_3_10 : GoodIn q_X3_readAtom_3 (wsV RX3 59 RX3 yX3_readSum q_X3_readSum_2) := goodIn_app (goodIn_r _ [97, 95, 96, 20] rfl (by decide +kernel)) (goodIn_ca (goodIn_ca (goodIn_r (.code yX3_readSum cX3_readSum 4 (some .boolean) :: [.code yX3_readTerm cX3_readTerm 4 (some .boolean), .code yX3_readAtom cX3_readAtom 4 (some .boolean), .fieldLink RX3 19 "LeftArguments$LawReader" "tape" "LLeftArguments$Tape;", .code yX10_next cX10_next 1 (some .int), .fieldLink RX10 19 "LeftArguments$Tape" "at" "I", .fieldLink RX10 15 "LeftArguments$Tape" "used" "I", .fieldLink RX10 9 "LeftArguments$Tape" "bytes" "[I", .initialized RX10, .instanceMethod yX10_next, .selects RX10 yX10_next yX10_next, .methodLink RX3 48 yX10_next, .code yX10_isDigit cX10_isDigit 1 (some .boolean), .static yX10_isDigit, .methodLink RX3 92 yX10_isDigit, .code yX10_step cX10_step 1 none, .instanceMethod yX10_step, .selects RX10 yX10_step yX10_step, .methodLink RX3 77 yX10_step, .code yX3_write cX3_write 3 none, .fieldLink RX3 15 "LeftArguments$LawReader" "used" "I", .fieldLink RX3 11 "LeftArguments$LawReader" "code" "[I", .initialized RX3, .instanceMethod yX3_write, .selects RX3 yX3_write yX3_write, .methodLink RX3 66 yX3_write, .code yX10_wrongHere cX10_wrongHere 1 (some .boolean), .fieldLink RX10 22 "LeftArguments$Tape" "wrongAt" "I", .instanceMethod yX10_wrongHere, .selects RX10 yX10_wrongHere yX10_wrongHere, .methodLink RX3 83 yX10_wrongHere, .code yJ0_indexOf_0f7a4 cJ0_indexOf_0f7a4 2 (some .int), .code yJ0_indexOf_7cf53 cJ0_indexOf_7cf53 3 (some .int), .code yJ0_isLatin1_aae02 cJ0_isLatin1_aae02 1 (some .boolean), .fieldLink RJ0 38 "java/lang/String" "COMPACT_STRINGS" "Z", .fieldLink RJ0 15 "java/lang/String" "coder" "B", .initialized RJ0, .instanceMethod yJ0_isLatin1_aae02, .selects RJ0 yJ0_isLatin1_aae02 yJ0_isLatin1_aae02, .methodLink RJ0 492 yJ0_isLatin1_aae02, .fieldLink RJ0 9 "java/lang/String" "value" "[B", .code yJ0_length_8abf5 cJ0_length_8abf5 1 (some .int), .code yJ0_coder_7d493 cJ0_coder_7d493 1 (some .byte), .instanceMethod yJ0_coder_7d493, .selects RJ0 yJ0_coder_7d493 yJ0_coder_7d493, .methodLink RJ0 335 yJ0_coder_7d493, .instanceMethod yJ0_length_8abf5, .selects RJ0 yJ0_length_8abf5 yJ0_length_8abf5, .methodLink RJ0 505 yJ0_length_8abf5, .code yJ1_indexOf_4cfef cJ1_indexOf_4cfef 4 (some .int), .code yJ1_canEncode_9a6ad cJ1_canEncode_9a6ad 1 (some .boolean), .initialized RJ1, .static yJ1_canEncode_9a6ad, .methodLink RJ1 88 yJ1_canEncode_9a6ad, .methodLink RJ1 92 Lib.Math.max.name, .static Lib.Math.max.name, .initialized "java/lang/Math", .code Lib.Math.max.name Lib.Math.max.code 2 (some .int), .methodLink RJ1 38 Lib.Math.min.name, .static Lib.Math.min.name, .code Lib.Math.min.name Lib.Math.min.code 2 (some .int), .code yJ1_indexOfChar_4cfef cJ1_indexOfChar_4cfef 6 (some .int), .static yJ1_indexOfChar_4cfef, .methodLink RJ1 95 yJ1_indexOfChar_4cfef, .static yJ1_indexOf_4cfef, .methodLink RJ0 637 yJ1_indexOf_4cfef, .instanceMethod yJ0_indexOf_7cf53, .selects RJ0 yJ0_indexOf_7cf53 yJ0_indexOf_7cf53, .methodLink RJ0 633 yJ0_indexOf_7cf53, .instanceMethod yJ0_indexOf_0f7a4, .selects RJ0 yJ0_indexOf_0f7a4 yJ0_indexOf_0f7a4, .methodLink RX3 103 yJ0_indexOf_0f7a4, .code yX10_takeNumber cX10_takeNumber 3 (some .boolean), .methodLink RX10 37 yX10_next, .methodLink RX10 45 yX10_isDigit, .fieldLink RX10 25 "LeftArguments$Tape" "number" "I", .code yX10_sign cX10_sign 1 (some .int), .instanceMethod yX10_sign, .selects RX10 yX10_sign yX10_sign, .methodLink RX10 49 yX10_sign, .methodLink RX10 41 yX10_wrongHere, .instanceMethod yX10_takeNumber, .selects RX10 yX10_takeNumber yX10_takeNumber, .methodLink RX3 95 yX10_takeNumber, .code yX10_number cX10_number 1 (some .int), .instanceMethod yX10_number, .selects RX10 yX10_number yX10_number, .methodLink RX3 98 yX10_number, .code yX3_readSum cX3_readSum 4 (some .boolean), .instanceMethod yX3_readAtom, .selects RX3 yX3_readAtom yX3_readAtom, .methodLink RX3 89 yX3_readAtom, .instanceMethod yX3_readTerm, .selects RX3 yX3_readTerm yX3_readTerm, .methodLink RX3 86 yX3_readTerm, .instanceMethod yX3_readSum, .selects RX3 yX3_readSum yX3_readSum, .methodLink RX3 59 yX3_readSum, .code yX10_take cX10_take 2 (some .boolean), .instanceMethod yX10_take, .selects RX10 yX10_take yX10_take, .methodLink RX3 51 yX10_take]) [86, 87, 88, 1, 2, 3, 4, 5, 6, 7, 8, 9, 10, 11, 12, 13, 14, 15, 16, 17, 18, 19, 20, 21, 22, 23, 24, 25, 26, 27, 28, 29, 30, 31, 32, 33, 34, 35, 36, 37, 38, 39, 40, 41, 42, 43, 44, 45, 46, 47, 48, 49, 50, 51, 52, 53, 54, 55, 56, 57, 58, 59, 60, 61, 62, 63, 64, 65, 66, 67, 68, 69, 70, 71, 72, 73, 74, 75, 76, 77, 78, 79, 80, 81, 82, 83, 84, 85, 86, 89, 90, 91, 92, 93, 94, 95, 96, 97, 98, 99, 100, 101] rfl (by decide +kernel)) (goodIn_sub (fun _ h => List.mem_cons_of_mem _ (List.mem_append_left _ (List.mem_append_right _ h))) gwX3)) (goodIn_sub (fun _ h => List.mem_cons_of_mem _ (List.mem_append_right _ h)) gwX10))
set_option maxRecDepth 20000 in
theorem g_X3_readAtom_3_11 : GoodIn q_X3_readAtom_3 (wsV RX3 51 RX10 yX10_take q_X10_take) := goodIn_app (goodIn_r _ [101, 99, 100, 6] rfl (by decide +kernel)) (goodIn_ca (goodIn_r (.code yX10_take cX10_take 2 (some .boolean) :: [.code yX10_next cX10_next 1 (some .int), .fieldLink RX10 19 "LeftArguments$Tape" "at" "I", .fieldLink RX10 15 "LeftArguments$Tape" "used" "I", .fieldLink RX10 9 "LeftArguments$Tape" "bytes" "[I", .initialized RX10, .instanceMethod yX10_next, .selects RX10 yX10_next yX10_next, .methodLink RX10 37 yX10_next, .code yX10_wrongHere cX10_wrongHere 1 (some .boolean), .fieldLink RX10 22 "LeftArguments$Tape" "wrongAt" "I", .instanceMethod yX10_wrongHere, .selects RX10 yX10_wrongHere yX10_wrongHere, .methodLink RX10 41 yX10_wrongHere]) [98, 2, 3, 4, 5, 6, 7, 8, 71, 24, 25, 26, 27, 78] rfl (by decide +kernel)) (goodIn_sub (fun _ h => List.mem_cons_of_mem _ (List.mem_append_right _ h)) gwX10))
set_option maxHeartbeats 4000000 in
set_option maxRecDepth 100000 in
theorem k_X3_readAtom_3 (l : Launch) (dC : Nat → ClassId) (dI : Nat → Nat → Nat) (adK : Nat → Nat) (adV : Nat → Nat) (h0 : Nat) (h1 : Nat) (h2 : Nat) (h3 : Nat) (v0 : Int32) (v1 : Int32) (v2 : Int32) (v3 : Int32) (v4 : Int32) (g0 : ClassId) (f5 : Nat → Int32) (g1 : ClassId) (f6 : Nat → Int32) (i_v0 : 0 ≤ v0.toInt ∧ v0.toInt ≤ 256) (i_v1 : 0 ≤ v1.toInt ∧ v1.toInt ≤ 240) (sz : Nat) : Met l yX3_readAtom q_X3_readAtom_3 ({ frames := 13, cells := 0, slots := 0, locals := 298 }) (va_Pc [.ref h0, .int 3] (fun U => U.heap.size = sz ∧ va_P (dC, dI) vwCl (wd_1ad0248d h0 h1 h3 v0 h1 h2 v1 v2 v3 v4 h2 g0 f5 h3 g1 f6) U.heap ∧ va_K (dC, dI) vwCl [(g0, .int), (g1, .int)] U ∧ va_D (fun _ => True) (wd_1ad0248d h0 h1 h3 v0 h1 h2 v1 v2 v3 v4 h2 g0 f5 h3 g1 f6) ∧ vk_R RX3 101 "zaondt" (adK 2) U ∧ va_Z "java/lang/String" "COMPACT_STRINGS" "Z" (.int 1) (va_A (wd_1ad0248d h0 h1 h3 v0 h1 h2 v1 v2 v3 v4 h2 g0 f5 h3 g1 f6) sz) U U.heap ∧ vk_S 3 pv_len3 pv_byt3 adK adV (va_A (wd_1ad0248d h0 h1 h3 v0 h1 h2 v1 v2 v3 v4 h2 g0 f5 h3 g1 f6) sz) U U.heap)) (va_Qi (fun (r : Int32) (_ : Unit) => 0 ≤ r.toInt ∧ r.toInt ≤ 1) (fun (_ : Unit) (t : State) => ∃ (o_h0_2 : Int32) (o_h1_2 : Int32) (o_h1_3 : Int32) (o_h1_4 : Int32) (o_h3 : Nat → Int32), 0 ≤ o_h0_2.toInt ∧ o_h0_2.toInt ≤ 256 ∧ va_P (dC, dI) vwCl (wd_1ad0248d h0 h1 h3 o_h0_2 h1 h2 v1 o_h1_2 o_h1_3 o_h1_4 h2 g0 f5 h3 g1 o_h3) t.heap ∧ va_K (dC, dI) vwCl [] t ∧ va_D (va_A (wd_1ad0248d h0 h1 h3 v0 h1 h2 v1 v2 v3 v4 h2 g0 f5 h3 g1 f6) sz) (wd_1ad0248d h0 h1 h3 o_h0_2 h1 h2 v1 o_h1_2 o_h1_3 o_h1_4 h2 g0 f5 h3 g1 o_h3)) (va_A (wd_1ad0248d h0 h1 h3 v0 h1 h2 v1 v2 v3 v4 h2 g0 f5 h3 g1 f6) sz)) 0 0 (va_A (wd_1ad0248d h0 h1 h3 v0 h1 h2 v1 v2 v3 v4 h2 g0 f5 h3 g1 f6) sz) := by
  refine Met.ofW (cc := cX3_readAtom) (maxL := 4) (ret := (some .boolean)) (by decide) rfl ?_
  intro p e s m args below meth c s₁ B hml hv
  obtain ⟨i_v0a, i_v0b⟩ := i_v0
  obtain ⟨i_v1a, i_v1b⟩ := i_v1
  obtain ⟨rfl, hsz, hP, hK, hD0, h_vr_2, h_st_CS, h_st_S⟩ := hv
  have hx := B.exec
  have hb := B.bytes
  have hr := B.returns
  have hts := atoms_spec (ws := q_X3_readAtom_3) B.pre
  have hown : s.vm.findClass RX3 = some m.cls := findClass_of_methodNamed B.named
  have hlocks := B.notSynchronized
  subst hsz
  have hD := hD0.self (sz := s.heap.size)
  generalize hAe : va_A (wd_1ad0248d h0 h1 h3 v0 h1 h2 v1 v2 v3 v4 h2 g0 f5 h3 g1 f6) s.heap.size = A at hD h_st_CS h_st_S ⊢
  have hA : ∀ q : Nat, s.heap.size ≤ q → A q := fun q h => by rw [← hAe]; exact Or.inr h
  have hS : va_S A s.heap s.heap [] := va_S.rf
  generalize hQ : (MQ below _ _ s 0 0 A) = Q
  have hl := lv_entry ([.ref h0, .int 3]) (n := 4) (Nat.le_of_ble_eq_true rfl)
  rw [lg_entry_eq]
  generalize (lg_sl ([.ref h0, .int 3]) ++ List.replicate (4 - (lg_sl ([.ref h0, .int 3])).length) Slot.unset).toArray = ls at hl ⊢
  have hl : lv_has ls 4 [(0, .ref h0), (1, .int 3)] := hl
  obtain ⟨H, hH⟩ : ∃ H : Heap, H = s.heap := ⟨_, rfl⟩
  obtain ⟨locs, hlocs⟩ : ∃ y : List Loc, y = [] := ⟨_, rfl⟩
  have hS : va_S A s.heap H locs := by rw [hH, hlocs]; exact va_S.rf
  have hP : va_P (dC, dI) vwCl (wd_1ad0248d h0 h1 h3 v0 h1 h2 v1 v2 v3 v4 h2 g0 f5 h3 g1 f6) H := by rw [hH]; exact hP
  rw [← hH, ← hlocs]
  refine lv_aload_n hx hb dX3_readAtom_0 rfl (lv_at hl 0 rfl) ?_
  refine va_get (D := (dC, dI)) (ci := 3) (v := .ref h1) (C := RX3) (T := TX3) (N := 3) hx hb hts (fun _ h => List.mem_cons_of_mem _ (List.mem_append_left _ (List.mem_append_right _ h))) hown hK hP 0 rfl rfl 0 (by decide) (hts (.fieldLink RX3 19 "LeftArguments$LawReader" "tape" "LLeftArguments$Tape;") (List.mem_cons_of_mem _ (List.mem_append_left _ (List.mem_append_left _ (List.mem_of_getElem? (i := 0) rfl))))) (fun _ h9 => h9) rfl dX3_readAtom_1 ?_
  have hPc := hP.sub (ws' := (wd_82cdd16b h1 h2 v1 v2 v3 v4 h2 g0 f5)) [1, 2] rfl
  have hDc := hD.sub (ws' := (wd_82cdd16b h1 h2 v1 v2 v3 v4 h2 g0 f5)) [1, 2] (by decide) rfl
  have hKc := hK.sub (tys' := [(g0, .int)]) [0] rfl
  have hFc := va_free (wc := (wd_82cdd16b h1 h2 v1 v2 v3 v4 h2 g0 f5)) hD hS hA [1, 2] rfl
  refine va_calli (va_runV (As := []) (rest := []) ⟨hx, hb, hml, hown, hts⟩ (k_X10_next l dC dI h1 h2 v1 v2 v3 v4 g0 f5 ⟨by first | omega | decide, by first | omega | decide⟩ H.size) (cwV 0 hts g_X3_readAtom_3_0 rfl rfl rfl (by decide +kernel) ⟨Nat.le_of_ble_eq_true rfl, Nat.le_of_ble_eq_true rfl⟩) ⟨fun a U g mk q => by obtain ⟨q0, q1, qP, qK, qD⟩ := q; exact ⟨q0, q1, qP, va_K.moved (u := U) (U := U.calling g mk a) (Vm.Alike.refl U.vm) qK, qD⟩, va_recv hKc hPc (ci := 10) (q0 := 0) rfl rfl, fun U hU hW => ⟨rfl, by rw [hU], by rw [hU]; exact hPc, va_K.moved hW.alike hKc, hDc.weaken (fun _ _ _ _ => trivial)⟩⟩ rfl rfl hl.1 rfl (lv_room (Nat.le_of_ble_eq_true rfl)) dX3_readAtom_4 ⟨Nat.le_of_ble_eq_true rfl, Nat.le_of_ble_eq_true rfl⟩) hS (fun q _ h => hFc q h) hFc (fun ra1 u t H1 locs ht hvm hwra1 hB hz1 hk1 hS => ?_)
  obtain ⟨x2, hP1, hK1, hD1⟩ := hB
  rw [ht] at hP1
  obtain ⟨hP, hD⟩ := va_join (wr := (wd_b958b9da h0 h1 h3 v0 h3 g1 f6)) (w1 := (wd_82cdd16b h1 h2 v1 x2 v3 v4 h2 g0 f5)) hP hD [1, 2] [0, 3] rfl rfl (by decide) (by decide) hk1 hFc hP1 hD1
  generalize H1 = H at hP hS ⊢
  have hP := hP.sub (ws' := (wd_1ad0248d h0 h1 h3 v0 h1 h2 v1 x2 v3 v4 h2 g0 f5 h3 g1 f6)) [0, 2, 3, 1] rfl
  have hD := hD.sub (ws' := (wd_1ad0248d h0 h1 h3 v0 h1 h2 v1 x2 v3 v4 h2 g0 f5 h3 g1 f6)) [0, 2, 3, 1] (by decide) rfl
  have hP : va_P (dC, dI) vwCl (wd_1ad0248d h0 h1 h3 v0 h1 h2 v1 x2 v3 v4 h2 g0 f5 h3 g1 f6) H := hP
  have hD : va_D A (wd_1ad0248d h0 h1 h3 v0 h1 h2 v1 x2 v3 v4 h2 g0 f5 h3 g1 f6) := hD
  refine lv_istore_n (lv' := [(2, .int ra1), (0, .ref h0), (1, .int 3)]) hx hb dX3_readAtom_7 rfl hl (by decide) rfl (fun ls hl => ?_)
  refine lv_iload_n hx hb dX3_readAtom_8 rfl (lv_at hl 0 rfl) ?_
  refine lv_bipush (v := 91) hx hb dX3_readAtom_9 (by decide) ?_
  refine lv_icmp_ne (tgt := 55) hx hb dX3_readAtom_11 (by decide) (fun c3 => ?_) (fun c3 => ?_)
  · skip
    have fc3 : ¬ (ra1.toInt = 91) := fun h9 => c3 (Int32.toInt_inj.mp h9)
    refine lv_iload_n hx hb dX3_readAtom_55 rfl (lv_at hl 0 rfl) ?_
    have hPc := hP.sub (ws' := []) [] rfl
    have hDc := hD.sub (ws' := []) [] (by decide) rfl
    have hKc := hK.sub (tys' := []) [] rfl
    have hFc := va_free (wc := []) hD hS hA [] rfl
    refine va_calli (va_runS (As := [.int ra1]) (rest := []) ⟨hx, hb, hml, hown, hts⟩ (k_X10_isDigit l dC dI ra1  H.size) (va_cwS 1 hts g_X3_readAtom_3_1 rfl rfl rfl (by decide +kernel) ⟨Nat.le_of_ble_eq_true rfl, Nat.le_of_ble_eq_true rfl⟩) ⟨fun a U g mk q => by obtain ⟨q0, q1, qP, qK, qD⟩ := q; exact ⟨q0, q1, qP, va_K.moved (u := U) (U := U.calling g mk a) (Vm.Alike.refl U.vm) qK, qD⟩, fun U hU hW => ⟨rfl, by rw [hU], by rw [hU]; exact hPc, va_K.moved hW.alike hKc, hDc.weaken (fun _ _ _ _ => trivial)⟩⟩ rfl rfl hl.1 rfl (lv_room (Nat.le_of_ble_eq_true rfl)) dX3_readAtom_56 ⟨Nat.le_of_ble_eq_true rfl, Nat.le_of_ble_eq_true rfl⟩) hS (fun q _ h => hFc q h) hFc (fun ra4 u t H1 locs ht hvm hwra4 hB hz1 hk1 hS => ?_)
    obtain ⟨hP1, hK1, hD1⟩ := hB
    rw [ht] at hP1
    obtain ⟨hP, hD⟩ := va_join (wr := (wd_1ad0248d h0 h1 h3 v0 h1 h2 v1 x2 v3 v4 h2 g0 f5 h3 g1 f6)) (w1 := []) hP hD [] [0, 1, 2, 3] rfl rfl (by decide) (by decide) hk1 hFc hP1 hD1
    generalize H1 = H at hP hS ⊢
    have hP : va_P (dC, dI) vwCl (wd_1ad0248d h0 h1 h3 v0 h1 h2 v1 x2 v3 v4 h2 g0 f5 h3 g1 f6) H := hP
    have hD : va_D A (wd_1ad0248d h0 h1 h3 v0 h1 h2 v1 x2 v3 v4 h2 g0 f5 h3 g1 f6) := hD
    obtain ⟨wa_ra4, wb_ra4⟩ := hwra4
    have wa_ra4 : 0 ≤ ra4.toInt := wa_ra4
    have wb_ra4 : ra4.toInt ≤ 1 := wb_ra4
    refine lv_if_eq (tgt := 89) hx hb dX3_readAtom_59 (by decide) (fun c5 => ?_) (fun c5 => ?_)
    · skip
      have fc5 : ra4.toInt = 0 := congrArg Int32.toInt c5
      refine lv_iload_n hx hb dX3_readAtom_89 rfl (lv_at hl 0 rfl) ?_
      refine lv_iconst (v := (-1)) hx hb dX3_readAtom_90 (by decide) ?_
      have hJ7 : ∀ (x6 : Int32) (H : Heap) (locs : List Loc) (ls : Array Slot), -1 ≤ x6.toInt → x6.toInt ≤ 5 → va_P (dC, dI) vwCl (wd_1ad0248d h0 h1 h3 v0 h1 h2 v1 x2 v3 v4 h2 g0 f5 h3 g1 f6) H → va_D A (wd_1ad0248d h0 h1 h3 v0 h1 h2 v1 x2 v3 v4 h2 g0 f5 h3 g1 f6) → va_S A s.heap H locs → lv_has ls 4 [(2, .int ra1), (0, .ref h0), (1, .int 3)] → W p l e ({ frames := 13, cells := 0, slots := 0, locals := 298 }) s m ([.ref h0, .int 3] : List Value).toArray below meth c H locs 0 0 Q (F0 m 105 ls [.int x6]) := by
        intro x6 H locs ls qa_x6 qb_x6 hP hD hS hl
        refine lv_istore_n (lv' := [(3, .int x6), (2, .int ra1), (0, .ref h0), (1, .int 3)]) hx hb dX3_readAtom_105 rfl hl (by decide) rfl (fun ls hl => ?_)
        refine lv_iload_n hx hb dX3_readAtom_106 rfl (lv_at hl 0 rfl) ?_
        refine lv_if_ge (tgt := 118) hx hb dX3_readAtom_107 (by decide) (fun c8 => ?_) (fun c8 => ?_)
        · skip
          have fc8 : 0 ≤ x6.toInt := Int32.le_iff_toInt_le.mp c8
          refine lv_aload_n hx hb dX3_readAtom_118 rfl (lv_at hl 2 rfl) ?_
          refine va_get (D := (dC, dI)) (ci := 3) (v := .ref h1) (C := RX3) (T := TX3) (N := 3) hx hb hts (fun _ h => List.mem_cons_of_mem _ (List.mem_append_left _ (List.mem_append_right _ h))) hown hK hP 0 rfl rfl 0 (by decide) (hts (.fieldLink RX3 19 "LeftArguments$LawReader" "tape" "LLeftArguments$Tape;") (List.mem_cons_of_mem _ (List.mem_append_left _ (List.mem_append_left _ (List.mem_of_getElem? (i := 0) rfl))))) (fun _ h9 => h9) rfl dX3_readAtom_119 ?_
          have hPc := hP.sub (ws' := (wd_09b0abee h1 h2 v1 x2 v3 v4)) [1] rfl
          have hDc := hD.sub (ws' := (wd_09b0abee h1 h2 v1 x2 v3 v4)) [1] (by decide) rfl
          have hKc := hK.sub (tys' := []) [] rfl
          have hFc := va_free (wc := (wd_09b0abee h1 h2 v1 x2 v3 v4)) hD hS hA [1] rfl
          refine va_callv (va_runV (As := []) (rest := []) ⟨hx, hb, hml, hown, hts⟩ (k_X10_step l dC dI h1 h2 v1 x2 v3 v4 ⟨by first | omega | decide, by first | omega | decide⟩ H.size) (cwV 0 hts g_X3_readAtom_3_2 rfl rfl rfl (by decide +kernel) ⟨Nat.le_of_ble_eq_true rfl, Nat.le_of_ble_eq_true rfl⟩) ⟨fun a U g mk q => by obtain ⟨q0, q1, qP, qK, qD⟩ := q; exact ⟨q0, q1, qP, va_K.moved (u := U) (U := U.calling g mk a) (Vm.Alike.refl U.vm) qK, qD⟩, va_recv hKc hPc (ci := 10) (q0 := 0) rfl rfl, fun U hU hW => ⟨rfl, by rw [hU], by rw [hU]; exact hPc, va_K.moved hW.alike hKc, hDc.weaken (fun _ _ _ _ => trivial)⟩⟩ rfl rfl hl.1 rfl (lv_room (Nat.le_of_ble_eq_true rfl)) dX3_readAtom_122 ⟨Nat.le_of_ble_eq_true rfl, Nat.le_of_ble_eq_true rfl⟩) hS (fun q _ h => hFc q h) hFc (fun u t H1 locs ht hvm hwra9 hB hz1 hk1 hS => ?_)
          obtain ⟨x10, hP1, hK1, hD1⟩ := hB
          rw [ht] at hP1
          obtain ⟨hP, hD⟩ := va_join (wr := (wd_6b0d8e05 h0 h1 h3 v0 h2 g0 f5 h3 g1 f6)) (w1 := (wd_09b0abee h1 h2 v1 x10 v3 v4)) hP hD [1] [0, 2, 3] rfl rfl (by decide) (by decide) hk1 hFc hP1 hD1
          generalize H1 = H at hP hS ⊢
          have hP := hP.sub (ws' := (wd_1ad0248d h0 h1 h3 v0 h1 h2 v1 x10 v3 v4 h2 g0 f5 h3 g1 f6)) [0, 3, 1, 2] rfl
          have hD := hD.sub (ws' := (wd_1ad0248d h0 h1 h3 v0 h1 h2 v1 x10 v3 v4 h2 g0 f5 h3 g1 f6)) [0, 3, 1, 2] (by decide) rfl
          have hP : va_P (dC, dI) vwCl (wd_1ad0248d h0 h1 h3 v0 h1 h2 v1 x10 v3 v4 h2 g0 f5 h3 g1 f6) H := hP
          have hD : va_D A (wd_1ad0248d h0 h1 h3 v0 h1 h2 v1 x10 v3 v4 h2 g0 f5 h3 g1 f6) := hD
          refine lv_aload_n hx hb dX3_readAtom_125 rfl (lv_at hl 2 rfl) ?_
          refine lv_iconst (v := 1) hx hb dX3_readAtom_126 (by decide) ?_
          refine lv_iload_n hx hb dX3_readAtom_127 rfl (lv_at hl 0 rfl) ?_
          have hPc := hP.sub (ws' := (wd_b958b9da h0 h1 h3 v0 h3 g1 f6)) [0, 3] rfl
          have hDc := hD.sub (ws' := (wd_b958b9da h0 h1 h3 v0 h3 g1 f6)) [0, 3] (by decide) rfl
          have hKc := hK.sub (tys' := [(g1, .int)]) [1] rfl
          have hFc := va_free (wc := (wd_b958b9da h0 h1 h3 v0 h3 g1 f6)) hD hS hA [0, 3] rfl
          refine va_callv (va_runV (As := [.int 1, .int x6]) (rest := []) ⟨hx, hb, hml, hown, hts⟩ (k_X3_write l dC dI h0 h3 h1 v0 g1 f6 1 x6 ⟨by first | omega | decide, by first | omega | decide⟩ H.size) (cwV 2 hts g_X3_readAtom_3_3 rfl rfl rfl (by decide +kernel) ⟨Nat.le_of_ble_eq_true rfl, Nat.le_of_ble_eq_true rfl⟩) ⟨fun a U g mk q => by obtain ⟨q0, q1, qP, qK, qD⟩ := q; exact ⟨q0, q1, qP, va_K.moved (u := U) (U := U.calling g mk a) (Vm.Alike.refl U.vm) qK, qD⟩, va_recv hKc hPc (ci := 3) (q0 := 0) rfl rfl, fun U hU hW => ⟨rfl, by rw [hU], by rw [hU]; exact hPc, va_K.moved hW.alike hKc, hDc.weaken (fun _ _ _ _ => trivial)⟩⟩ rfl rfl hl.1 rfl (lv_room (Nat.le_of_ble_eq_true rfl)) dX3_readAtom_128 ⟨Nat.le_of_ble_eq_true rfl, Nat.le_of_ble_eq_true rfl⟩) hS (fun q _ h => hFc q h) hFc (fun u t H1 locs ht hvm hwra11 hB hz1 hk1 hS => ?_)
          obtain ⟨x12, fn13, oa_x12, ob_x12, hP1, hK1, hD1⟩ := hB
          rw [ht] at hP1
          obtain ⟨hP, hD⟩ := va_join (wr := (wd_82cdd16b h1 h2 v1 x10 v3 v4 h2 g0 f5)) (w1 := (wd_b958b9da h0 h1 h3 x12 h3 g1 fn13)) hP hD [0, 3] [1, 2] rfl rfl (by decide) (by decide) hk1 hFc hP1 hD1
          generalize H1 = H at hP hS ⊢
          have hP := hP.sub (ws' := (wd_1ad0248d h0 h1 h3 x12 h1 h2 v1 x10 v3 v4 h2 g0 f5 h3 g1 fn13)) [2, 0, 1, 3] rfl
          have hD := hD.sub (ws' := (wd_1ad0248d h0 h1 h3 x12 h1 h2 v1 x10 v3 v4 h2 g0 f5 h3 g1 fn13)) [2, 0, 1, 3] (by decide) rfl
          have hP : va_P (dC, dI) vwCl (wd_1ad0248d h0 h1 h3 x12 h1 h2 v1 x10 v3 v4 h2 g0 f5 h3 g1 fn13) H := hP
          have hD : va_D A (wd_1ad0248d h0 h1 h3 x12 h1 h2 v1 x10 v3 v4 h2 g0 f5 h3 g1 fn13) := hD
          refine lv_iconst (v := 1) hx hb dX3_readAtom_131 (by decide) ?_
          subst hQ
          have hP9 := hP.sub (ws' := (wd_1ad0248d h0 h1 h3 x12 h1 h2 v1 x10 v3 v4 h2 g0 f5 h3 g1 fn13)) [0, 1, 2, 3] rfl
          have hD9 := hD.sub (ws' := (wd_1ad0248d h0 h1 h3 x12 h1 h2 v1 x10 v3 v4 h2 g0 f5 h3 g1 fn13)) [0, 1, 2, 3] (by decide) rfl
          have hK9 := hK.sub (tys' := []) [] rfl
          exact W.zret (v := 1) hx hb hr rfl (fun t ht hW => ⟨⟨1, (), rfl, ⟨by first | omega | decide, by first | omega | decide⟩, x12, x10, v3, v4, fn13, by first | omega | decide, by first | omega | decide, by rw [ht]; exact hP9, va_K.moved hW.alike hK9, hD9⟩, hS.F ht⟩) hS.2.2 dX3_readAtom_132
        · skip
          have fc8 : ¬ (0 ≤ x6.toInt) := fun h9 => c8 (Int32.le_iff_toInt_le.mpr h9)
          refine lv_aload_n hx hb dX3_readAtom_110 rfl (lv_at hl 2 rfl) ?_
          refine va_get (D := (dC, dI)) (ci := 3) (v := .ref h1) (C := RX3) (T := TX3) (N := 3) hx hb hts (fun _ h => List.mem_cons_of_mem _ (List.mem_append_left _ (List.mem_append_right _ h))) hown hK hP 0 rfl rfl 0 (by decide) (hts (.fieldLink RX3 19 "LeftArguments$LawReader" "tape" "LLeftArguments$Tape;") (List.mem_cons_of_mem _ (List.mem_append_left _ (List.mem_append_left _ (List.mem_of_getElem? (i := 0) rfl))))) (fun _ h9 => h9) rfl dX3_readAtom_111 ?_
          have hPc := hP.sub (ws' := (wd_09b0abee h1 h2 v1 x2 v3 v4)) [1] rfl
          have hDc := hD.sub (ws' := (wd_09b0abee h1 h2 v1 x2 v3 v4)) [1] (by decide) rfl
          have hKc := hK.sub (tys' := []) [] rfl
          have hFc := va_free (wc := (wd_09b0abee h1 h2 v1 x2 v3 v4)) hD hS hA [1] rfl
          refine va_calli (va_runV (As := []) (rest := []) ⟨hx, hb, hml, hown, hts⟩ (k_X10_wrongHere l dC dI h1 h2 v1 x2 v3 v4 ⟨by first | omega | decide, by first | omega | decide⟩ H.size) (cwV 0 hts g_X3_readAtom_3_4 rfl rfl rfl (by decide +kernel) ⟨Nat.le_of_ble_eq_true rfl, Nat.le_of_ble_eq_true rfl⟩) ⟨fun a U g mk q => by obtain ⟨q0, q1, qP, qK, qD⟩ := q; exact ⟨q0, q1, qP, va_K.moved (u := U) (U := U.calling g mk a) (Vm.Alike.refl U.vm) qK, qD⟩, va_recv hKc hPc (ci := 10) (q0 := 0) rfl rfl, fun U hU hW => ⟨rfl, by rw [hU], by rw [hU]; exact hPc, va_K.moved hW.alike hKc, hDc.weaken (fun _ _ _ _ => trivial)⟩⟩ rfl rfl hl.1 rfl (lv_room (Nat.le_of_ble_eq_true rfl)) dX3_readAtom_114 ⟨Nat.le_of_ble_eq_true rfl, Nat.le_of_ble_eq_true rfl⟩) hS (fun q _ h => hFc q h) hFc (fun ra14 u t H1 locs ht hvm hwra14 hB hz1 hk1 hS => ?_)
          obtain ⟨x15, hP1, hK1, hD1⟩ := hB
          rw [ht] at hP1
          obtain ⟨hP, hD⟩ := va_join (wr := (wd_6b0d8e05 h0 h1 h3 v0 h2 g0 f5 h3 g1 f6)) (w1 := (wd_09b0abee h1 h2 v1 x2 x15 v4)) hP hD [1] [0, 2, 3] rfl rfl (by decide) (by decide) hk1 hFc hP1 hD1
          generalize H1 = H at hP hS ⊢
          have hP := hP.sub (ws' := (wd_1ad0248d h0 h1 h3 v0 h1 h2 v1 x2 x15 v4 h2 g0 f5 h3 g1 f6)) [0, 3, 1, 2] rfl
          have hD := hD.sub (ws' := (wd_1ad0248d h0 h1 h3 v0 h1 h2 v1 x2 x15 v4 h2 g0 f5 h3 g1 f6)) [0, 3, 1, 2] (by decide) rfl
          have hP : va_P (dC, dI) vwCl (wd_1ad0248d h0 h1 h3 v0 h1 h2 v1 x2 x15 v4 h2 g0 f5 h3 g1 f6) H := hP
          have hD : va_D A (wd_1ad0248d h0 h1 h3 v0 h1 h2 v1 x2 x15 v4 h2 g0 f5 h3 g1 f6) := hD
          obtain ⟨wa_ra14, wb_ra14⟩ := hwra14
          have wa_ra14 : 0 ≤ ra14.toInt := wa_ra14
          have wb_ra14 : ra14.toInt ≤ 0 := wb_ra14
          subst hQ
          have hP9 := hP.sub (ws' := (wd_1ad0248d h0 h1 h3 v0 h1 h2 v1 x2 x15 v4 h2 g0 f5 h3 g1 f6)) [0, 1, 2, 3] rfl
          have hD9 := hD.sub (ws' := (wd_1ad0248d h0 h1 h3 v0 h1 h2 v1 x2 x15 v4 h2 g0 f5 h3 g1 f6)) [0, 1, 2, 3] (by decide) rfl
          have hK9 := hK.sub (tys' := []) [] rfl
          exact W.zret (v := ra14) hx hb hr (pv_nz (by omega) (by omega)) (fun t ht hW => ⟨⟨ra14, (), rfl, ⟨by first | omega | decide, by first | omega | decide⟩, v0, x2, x15, v4, f6, by first | omega | decide, by first | omega | decide, by rw [ht]; exact hP9, va_K.moved hW.alike hK9, hD9⟩, hS.F ht⟩) hS.2.2 dX3_readAtom_117
      refine lv_icmp_ne (tgt := 98) hx hb dX3_readAtom_91 (by decide) (fun c16 => ?_) (fun c16 => ?_)
      · skip
        have fc16 : ¬ (ra1.toInt = (-1)) := fun h9 => c16 (Int32.toInt_inj.mp h9)
        refine va_ldcS hx hb hown h_vr_2 dX3_readAtom_98 ?_
        refine lv_iload_n hx hb dX3_readAtom_100 rfl (lv_at hl 0 rfl) ?_
        obtain ⟨t17, et17⟩ : ∃ z : Int32, z = ((ra1 : Int32).toUInt32 % 65536).toInt32 := ⟨_, rfl⟩
        refine lv_i2c (v := t17) hx hb dX3_readAtom_101 (by rw [et17]) ?_
        have hPc := hP.sub (ws' := []) [] rfl
        have hDc := hD.sub (ws' := []) [] (by decide) rfl
        have hKc := hK.sub (tys' := []) [] rfl
        have hFc := va_free (wc := []) hD hS hA [] rfl
        refine va_calli (va_runV (As := [.int t17]) (rest := []) ⟨hx, hb, hml, hown, hts⟩ (k_J0_indexOf_0f7a4 l dC dI adK adV t17  H.size) (cwV 1 hts g_X3_readAtom_3_5 rfl rfl rfl (by decide +kernel) ⟨Nat.le_of_ble_eq_true rfl, Nat.le_of_ble_eq_true rfl⟩) ⟨fun a U g mk q => by obtain ⟨q0, q1, qP, qK, qD, n0, n1⟩ := q; exact ⟨q0, q1, qP, va_K.moved (u := U) (U := U.calling g mk a) (Vm.Alike.refl U.vm) qK, qD, va_Z.moved (Vm.Alike.refl _) n0, vk_S.moved (Vm.Alike.refl _) n1⟩, vk_recv h_st_S (by decide : 2 < 3) hS, fun U hU hW => ⟨rfl, by rw [hU], by rw [hU]; exact hPc, va_K.moved hW.alike hKc, hDc.weaken (fun _ _ _ _ => trivial), (by rw [hU]; exact (va_Z.moved hW.alike (va_Z.kept h_st_CS hS.2.1)).narrow hFc), (by rw [hU]; exact (vk_S.moved hW.alike (vk_S.kept h_st_S hS.2.1)).narrow hFc)⟩⟩ rfl rfl hl.1 rfl (lv_room (Nat.le_of_ble_eq_true rfl)) dX3_readAtom_102 ⟨Nat.le_of_ble_eq_true rfl, Nat.le_of_ble_eq_true rfl⟩) hS (fun q _ h => hFc q h) hFc (fun ra18 u t H1 locs ht hvm hwra18 hB hz1 hk1 hS => ?_)
        obtain ⟨hP1, hK1, hD1⟩ := hB
        rw [ht] at hP1
        obtain ⟨hP, hD⟩ := va_join (wr := (wd_1ad0248d h0 h1 h3 v0 h1 h2 v1 x2 v3 v4 h2 g0 f5 h3 g1 f6)) (w1 := []) hP hD [] [0, 1, 2, 3] rfl rfl (by decide) (by decide) hk1 hFc hP1 hD1
        generalize H1 = H at hP hS ⊢
        have hP : va_P (dC, dI) vwCl (wd_1ad0248d h0 h1 h3 v0 h1 h2 v1 x2 v3 v4 h2 g0 f5 h3 g1 f6) H := hP
        have hD : va_D A (wd_1ad0248d h0 h1 h3 v0 h1 h2 v1 x2 v3 v4 h2 g0 f5 h3 g1 f6) := hD
        obtain ⟨wa_ra18, wb_ra18⟩ := hwra18
        have wa_ra18 : -1 ≤ ra18.toInt := wa_ra18
        have wb_ra18 : ra18.toInt ≤ 5 := wb_ra18
        exact hJ7 ra18 H locs ls (by first | omega | decide) (by first | omega | decide) hP hD hS (lv_sub hl [0, 1, 2] rfl)
      · skip
        have fc16 : ra1.toInt = (-1) := congrArg Int32.toInt c16
        refine lv_iconst (v := (-1)) hx hb dX3_readAtom_94 (by decide) ?_
        refine lv_goto (tgt := 105) hx hb dX3_readAtom_95 (by decide) ?_
        exact hJ7 ((-1)) H locs ls (by first | omega | decide) (by first | omega | decide) hP hD hS (lv_sub hl [0, 1, 2] rfl)
    · skip
      have fc5 : ¬ (ra4.toInt = 0) := fun h9 => c5 (Int32.toInt_inj.mp h9)
      refine lv_aload_n hx hb dX3_readAtom_62 rfl (lv_at hl 1 rfl) ?_
      refine va_get (D := (dC, dI)) (ci := 3) (v := .ref h1) (C := RX3) (T := TX3) (N := 3) hx hb hts (fun _ h => List.mem_cons_of_mem _ (List.mem_append_left _ (List.mem_append_right _ h))) hown hK hP 0 rfl rfl 0 (by decide) (hts (.fieldLink RX3 19 "LeftArguments$LawReader" "tape" "LLeftArguments$Tape;") (List.mem_cons_of_mem _ (List.mem_append_left _ (List.mem_append_left _ (List.mem_of_getElem? (i := 0) rfl))))) (fun _ h9 => h9) rfl dX3_readAtom_63 ?_
      refine lv_iconst (v := 4) hx hb dX3_readAtom_66 (by decide) ?_
      have hPc := hP.sub (ws' := (wd_82cdd16b h1 h2 v1 x2 v3 v4 h2 g0 f5)) [1, 2] rfl
      have hDc := hD.sub (ws' := (wd_82cdd16b h1 h2 v1 x2 v3 v4 h2 g0 f5)) [1, 2] (by decide) rfl
      have hKc := hK.sub (tys' := [(g0, .int)]) [0] rfl
      have hFc := va_free (wc := (wd_82cdd16b h1 h2 v1 x2 v3 v4 h2 g0 f5)) hD hS hA [1, 2] rfl
      refine va_calli (va_runV (As := [.int 4]) (rest := []) ⟨hx, hb, hml, hown, hts⟩ (k_X10_takeNumber l dC dI h1 h2 v1 x2 v3 v4 g0 f5 4 ⟨by first | omega | decide, by first | omega | decide⟩ H.size) (cwV 1 hts g_X3_readAtom_3_6 rfl rfl rfl (by decide +kernel) ⟨Nat.le_of_ble_eq_true rfl, Nat.le_of_ble_eq_true rfl⟩) ⟨fun a U g mk q => by obtain ⟨q0, q1, qP, qK, qD⟩ := q; exact ⟨q0, q1, qP, va_K.moved (u := U) (U := U.calling g mk a) (Vm.Alike.refl U.vm) qK, qD⟩, va_recv hKc hPc (ci := 10) (q0 := 0) rfl rfl, fun U hU hW => ⟨rfl, by rw [hU], by rw [hU]; exact hPc, va_K.moved hW.alike hKc, hDc.weaken (fun _ _ _ _ => trivial)⟩⟩ rfl rfl hl.1 rfl (lv_room (Nat.le_of_ble_eq_true rfl)) dX3_readAtom_67 ⟨Nat.le_of_ble_eq_true rfl, Nat.le_of_ble_eq_true rfl⟩) hS (fun q _ h => hFc q h) hFc (fun ra19 u t H1 locs ht hvm hwra19 hB hz1 hk1 hS => ?_)
      obtain ⟨x20, x21, x22, hP1, hK1, hD1⟩ := hB
      rw [ht] at hP1
      obtain ⟨hP, hD⟩ := va_join (wr := (wd_b958b9da h0 h1 h3 v0 h3 g1 f6)) (w1 := (wd_82cdd16b h1 h2 v1 x20 x21 x22 h2 g0 f5)) hP hD [1, 2] [0, 3] rfl rfl (by decide) (by decide) hk1 hFc hP1 hD1
      generalize H1 = H at hP hS ⊢
      have hP := hP.sub (ws' := (wd_1ad0248d h0 h1 h3 v0 h1 h2 v1 x20 x21 x22 h2 g0 f5 h3 g1 f6)) [0, 2, 3, 1] rfl
      have hD := hD.sub (ws' := (wd_1ad0248d h0 h1 h3 v0 h1 h2 v1 x20 x21 x22 h2 g0 f5 h3 g1 f6)) [0, 2, 3, 1] (by decide) rfl
      have hP : va_P (dC, dI) vwCl (wd_1ad0248d h0 h1 h3 v0 h1 h2 v1 x20 x21 x22 h2 g0 f5 h3 g1 f6) H := hP
      have hD : va_D A (wd_1ad0248d h0 h1 h3 v0 h1 h2 v1 x20 x21 x22 h2 g0 f5 h3 g1 f6) := hD
      obtain ⟨wa_ra19, wb_ra19⟩ := hwra19
      have wa_ra19 : 0 ≤ ra19.toInt := wa_ra19
      have wb_ra19 : ra19.toInt ≤ 1 := wb_ra19
      refine lv_if_ne (tgt := 75) hx hb dX3_readAtom_70 (by decide) (fun c23 => ?_) (fun c23 => ?_)
      · skip
        have fc23 : ¬ (ra19.toInt = 0) := fun h9 => c23 (Int32.toInt_inj.mp h9)
        refine lv_aload_n hx hb dX3_readAtom_75 rfl (lv_at hl 1 rfl) ?_
        refine lv_iconst (v := 0) hx hb dX3_readAtom_76 (by decide) ?_
        refine lv_aload_n hx hb dX3_readAtom_77 rfl (lv_at hl 1 rfl) ?_
        refine va_get (D := (dC, dI)) (ci := 3) (v := .ref h1) (C := RX3) (T := TX3) (N := 3) hx hb hts (fun _ h => List.mem_cons_of_mem _ (List.mem_append_left _ (List.mem_append_right _ h))) hown hK hP 0 rfl rfl 0 (by decide) (hts (.fieldLink RX3 19 "LeftArguments$LawReader" "tape" "LLeftArguments$Tape;") (List.mem_cons_of_mem _ (List.mem_append_left _ (List.mem_append_left _ (List.mem_of_getElem? (i := 0) rfl))))) (fun _ h9 => h9) rfl dX3_readAtom_78 ?_
        have hPc := hP.sub (ws' := (wd_09b0abee h1 h2 v1 x20 x21 x22)) [1] rfl
        have hDc := hD.sub (ws' := (wd_09b0abee h1 h2 v1 x20 x21 x22)) [1] (by decide) rfl
        have hKc := hK.sub (tys' := []) [] rfl
        have hFc := va_free (wc := (wd_09b0abee h1 h2 v1 x20 x21 x22)) hD hS hA [1] rfl
        refine va_calli (va_runV (As := []) (rest := [.int 0, .ref h0]) ⟨hx, hb, hml, hown, hts⟩ (k_X10_number l dC dI h1 h2 v1 x20 x21 x22 ⟨by first | omega | decide, by first | omega | decide⟩ H.size) (cwV 0 hts g_X3_readAtom_3_7 rfl rfl rfl (by decide +kernel) ⟨Nat.le_of_ble_eq_true rfl, Nat.le_of_ble_eq_true rfl⟩) ⟨fun a U g mk q => by obtain ⟨q0, q1, qP, qK, qD⟩ := q; exact ⟨q0, q1, qP, va_K.moved (u := U) (U := U.calling g mk a) (Vm.Alike.refl U.vm) qK, qD⟩, va_recv hKc hPc (ci := 10) (q0 := 0) rfl rfl, fun U hU hW => ⟨rfl, by rw [hU], by rw [hU]; exact hPc, va_K.moved hW.alike hKc, hDc.weaken (fun _ _ _ _ => trivial)⟩⟩ rfl rfl hl.1 rfl (lv_room (Nat.le_of_ble_eq_true rfl)) dX3_readAtom_81 ⟨Nat.le_of_ble_eq_true rfl, Nat.le_of_ble_eq_true rfl⟩) hS (fun q _ h => hFc q h) hFc (fun ra24 u t H1 locs ht hvm hwra24 hB hz1 hk1 hS => ?_)
        obtain ⟨hP1, hK1, hD1⟩ := hB
        rw [ht] at hP1
        obtain ⟨hP, hD⟩ := va_join (wr := (wd_6b0d8e05 h0 h1 h3 v0 h2 g0 f5 h3 g1 f6)) (w1 := (wd_09b0abee h1 h2 v1 x20 x21 x22)) hP hD [1] [0, 2, 3] rfl rfl (by decide) (by decide) hk1 hFc hP1 hD1
        generalize H1 = H at hP hS ⊢
        have hP := hP.sub (ws' := (wd_1ad0248d h0 h1 h3 v0 h1 h2 v1 x20 x21 x22 h2 g0 f5 h3 g1 f6)) [0, 3, 1, 2] rfl
        have hD := hD.sub (ws' := (wd_1ad0248d h0 h1 h3 v0 h1 h2 v1 x20 x21 x22 h2 g0 f5 h3 g1 f6)) [0, 3, 1, 2] (by decide) rfl
        have hP : va_P (dC, dI) vwCl (wd_1ad0248d h0 h1 h3 v0 h1 h2 v1 x20 x21 x22 h2 g0 f5 h3 g1 f6) H := hP
        have hD : va_D A (wd_1ad0248d h0 h1 h3 v0 h1 h2 v1 x20 x21 x22 h2 g0 f5 h3 g1 f6) := hD
        have hPc := hP.sub (ws' := (wd_b958b9da h0 h1 h3 v0 h3 g1 f6)) [0, 3] rfl
        have hDc := hD.sub (ws' := (wd_b958b9da h0 h1 h3 v0 h3 g1 f6)) [0, 3] (by decide) rfl
        have hKc := hK.sub (tys' := [(g1, .int)]) [1] rfl
        have hFc := va_free (wc := (wd_b958b9da h0 h1 h3 v0 h3 g1 f6)) hD hS hA [0, 3] rfl
        refine va_callv (va_runV (As := [.int 0, .int ra24]) (rest := []) ⟨hx, hb, hml, hown, hts⟩ (k_X3_write l dC dI h0 h3 h1 v0 g1 f6 0 ra24 ⟨by first | omega | decide, by first | omega | decide⟩ H.size) (cwV 2 hts g_X3_readAtom_3_3 rfl rfl rfl (by decide +kernel) ⟨Nat.le_of_ble_eq_true rfl, Nat.le_of_ble_eq_true rfl⟩) ⟨fun a U g mk q => by obtain ⟨q0, q1, qP, qK, qD⟩ := q; exact ⟨q0, q1, qP, va_K.moved (u := U) (U := U.calling g mk a) (Vm.Alike.refl U.vm) qK, qD⟩, va_recv hKc hPc (ci := 3) (q0 := 0) rfl rfl, fun U hU hW => ⟨rfl, by rw [hU], by rw [hU]; exact hPc, va_K.moved hW.alike hKc, hDc.weaken (fun _ _ _ _ => trivial)⟩⟩ rfl rfl hl.1 rfl (lv_room (Nat.le_of_ble_eq_true rfl)) dX3_readAtom_84 ⟨Nat.le_of_ble_eq_true rfl, Nat.le_of_ble_eq_true rfl⟩) hS (fun q _ h => hFc q h) hFc (fun u t H1 locs ht hvm hwra25 hB hz1 hk1 hS => ?_)
        obtain ⟨x26, fn27, oa_x26, ob_x26, hP1, hK1, hD1⟩ := hB
        rw [ht] at hP1
        obtain ⟨hP, hD⟩ := va_join (wr := (wd_82cdd16b h1 h2 v1 x20 x21 x22 h2 g0 f5)) (w1 := (wd_b958b9da h0 h1 h3 x26 h3 g1 fn27)) hP hD [0, 3] [1, 2] rfl rfl (by decide) (by decide) hk1 hFc hP1 hD1
        generalize H1 = H at hP hS ⊢
        have hP := hP.sub (ws' := (wd_1ad0248d h0 h1 h3 x26 h1 h2 v1 x20 x21 x22 h2 g0 f5 h3 g1 fn27)) [2, 0, 1, 3] rfl
        have hD := hD.sub (ws' := (wd_1ad0248d h0 h1 h3 x26 h1 h2 v1 x20 x21 x22 h2 g0 f5 h3 g1 fn27)) [2, 0, 1, 3] (by decide) rfl
        have hP : va_P (dC, dI) vwCl (wd_1ad0248d h0 h1 h3 x26 h1 h2 v1 x20 x21 x22 h2 g0 f5 h3 g1 fn27) H := hP
        have hD : va_D A (wd_1ad0248d h0 h1 h3 x26 h1 h2 v1 x20 x21 x22 h2 g0 f5 h3 g1 fn27) := hD
        refine lv_iconst (v := 1) hx hb dX3_readAtom_87 (by decide) ?_
        subst hQ
        have hP9 := hP.sub (ws' := (wd_1ad0248d h0 h1 h3 x26 h1 h2 v1 x20 x21 x22 h2 g0 f5 h3 g1 fn27)) [0, 1, 2, 3] rfl
        have hD9 := hD.sub (ws' := (wd_1ad0248d h0 h1 h3 x26 h1 h2 v1 x20 x21 x22 h2 g0 f5 h3 g1 fn27)) [0, 1, 2, 3] (by decide) rfl
        have hK9 := hK.sub (tys' := []) [] rfl
        exact W.zret (v := 1) hx hb hr rfl (fun t ht hW => ⟨⟨1, (), rfl, ⟨by first | omega | decide, by first | omega | decide⟩, x26, x20, x21, x22, fn27, by first | omega | decide, by first | omega | decide, by rw [ht]; exact hP9, va_K.moved hW.alike hK9, hD9⟩, hS.F ht⟩) hS.2.2 dX3_readAtom_88
      · skip
        have fc23 : ra19.toInt = 0 := congrArg Int32.toInt c23
        refine lv_iconst (v := 0) hx hb dX3_readAtom_73 (by decide) ?_
        subst hQ
        have hP9 := hP.sub (ws' := (wd_1ad0248d h0 h1 h3 v0 h1 h2 v1 x20 x21 x22 h2 g0 f5 h3 g1 f6)) [0, 1, 2, 3] rfl
        have hD9 := hD.sub (ws' := (wd_1ad0248d h0 h1 h3 v0 h1 h2 v1 x20 x21 x22 h2 g0 f5 h3 g1 f6)) [0, 1, 2, 3] (by decide) rfl
        have hK9 := hK.sub (tys' := []) [] rfl
        exact W.zret (v := 0) hx hb hr rfl (fun t ht hW => ⟨⟨0, (), rfl, ⟨by first | omega | decide, by first | omega | decide⟩, v0, x20, x21, x22, f6, by first | omega | decide, by first | omega | decide, by rw [ht]; exact hP9, va_K.moved hW.alike hK9, hD9⟩, hS.F ht⟩) hS.2.2 dX3_readAtom_74
  · skip
    have fc3 : ra1.toInt = 91 := congrArg Int32.toInt c3
    refine lv_iload_n hx hb dX3_readAtom_14 rfl (lv_at hl 2 rfl) ?_
    refine lv_bipush (v := 6) hx hb dX3_readAtom_15 (by decide) ?_
    refine lv_icmp_ge (tgt := 55) hx hb dX3_readAtom_17 (by decide) (fun c => absurd c (by decide)) (fun _ => ?_)
    refine lv_aload_n hx hb dX3_readAtom_20 rfl (lv_at hl 1 rfl) ?_
    refine va_get (D := (dC, dI)) (ci := 3) (v := .ref h1) (C := RX3) (T := TX3) (N := 3) hx hb hts (fun _ h => List.mem_cons_of_mem _ (List.mem_append_left _ (List.mem_append_right _ h))) hown hK hP 0 rfl rfl 0 (by decide) (hts (.fieldLink RX3 19 "LeftArguments$LawReader" "tape" "LLeftArguments$Tape;") (List.mem_cons_of_mem _ (List.mem_append_left _ (List.mem_append_left _ (List.mem_of_getElem? (i := 0) rfl))))) (fun _ h9 => h9) rfl dX3_readAtom_21 ?_
    have hPc := hP.sub (ws' := (wd_09b0abee h1 h2 v1 x2 v3 v4)) [1] rfl
    have hDc := hD.sub (ws' := (wd_09b0abee h1 h2 v1 x2 v3 v4)) [1] (by decide) rfl
    have hKc := hK.sub (tys' := []) [] rfl
    have hFc := va_free (wc := (wd_09b0abee h1 h2 v1 x2 v3 v4)) hD hS hA [1] rfl
    refine va_callv (va_runV (As := []) (rest := []) ⟨hx, hb, hml, hown, hts⟩ (k_X10_step l dC dI h1 h2 v1 x2 v3 v4 ⟨by first | omega | decide, by first | omega | decide⟩ H.size) (cwV 0 hts g_X3_readAtom_3_2 rfl rfl rfl (by decide +kernel) ⟨Nat.le_of_ble_eq_true rfl, Nat.le_of_ble_eq_true rfl⟩) ⟨fun a U g mk q => by obtain ⟨q0, q1, qP, qK, qD⟩ := q; exact ⟨q0, q1, qP, va_K.moved (u := U) (U := U.calling g mk a) (Vm.Alike.refl U.vm) qK, qD⟩, va_recv hKc hPc (ci := 10) (q0 := 0) rfl rfl, fun U hU hW => ⟨rfl, by rw [hU], by rw [hU]; exact hPc, va_K.moved hW.alike hKc, hDc.weaken (fun _ _ _ _ => trivial)⟩⟩ rfl rfl hl.1 rfl (lv_room (Nat.le_of_ble_eq_true rfl)) dX3_readAtom_24 ⟨Nat.le_of_ble_eq_true rfl, Nat.le_of_ble_eq_true rfl⟩) hS (fun q _ h => hFc q h) hFc (fun u t H1 locs ht hvm hwra28 hB hz1 hk1 hS => ?_)
    obtain ⟨x29, hP1, hK1, hD1⟩ := hB
    rw [ht] at hP1
    obtain ⟨hP, hD⟩ := va_join (wr := (wd_6b0d8e05 h0 h1 h3 v0 h2 g0 f5 h3 g1 f6)) (w1 := (wd_09b0abee h1 h2 v1 x29 v3 v4)) hP hD [1] [0, 2, 3] rfl rfl (by decide) (by decide) hk1 hFc hP1 hD1
    generalize H1 = H at hP hS ⊢
    have hP := hP.sub (ws' := (wd_1ad0248d h0 h1 h3 v0 h1 h2 v1 x29 v3 v4 h2 g0 f5 h3 g1 f6)) [0, 3, 1, 2] rfl
    have hD := hD.sub (ws' := (wd_1ad0248d h0 h1 h3 v0 h1 h2 v1 x29 v3 v4 h2 g0 f5 h3 g1 f6)) [0, 3, 1, 2] (by decide) rfl
    have hP : va_P (dC, dI) vwCl (wd_1ad0248d h0 h1 h3 v0 h1 h2 v1 x29 v3 v4 h2 g0 f5 h3 g1 f6) H := hP
    have hD : va_D A (wd_1ad0248d h0 h1 h3 v0 h1 h2 v1 x29 v3 v4 h2 g0 f5 h3 g1 f6) := hD
    refine lv_aload_n hx hb dX3_readAtom_27 rfl (lv_at hl 1 rfl) ?_
    refine lv_iload_n hx hb dX3_readAtom_28 rfl (lv_at hl 2 rfl) ?_
    refine lv_iconst (v := 1) hx hb dX3_readAtom_29 (by decide) ?_
    refine lv_iadd hx hb dX3_readAtom_30 ?_
    refine lv_topi (fun tv30 etv30 => ?_)
    obtain rfl : tv30 = (4 : Int32) := etv30.trans (by first | rfl | decide)
    have hPc := hP.sub (ws' := (wd_1ad0248d h0 h1 h3 v0 h1 h2 v1 x29 v3 v4 h2 g0 f5 h3 g1 f6)) [0, 1, 2, 3] rfl
    have hDc := hD.sub (ws' := (wd_1ad0248d h0 h1 h3 v0 h1 h2 v1 x29 v3 v4 h2 g0 f5 h3 g1 f6)) [0, 1, 2, 3] (by decide) rfl
    have hKc := hK.sub (tys' := [(g0, .int), (g1, .int)]) [0, 1] rfl
    have hFc := va_free (wc := (wd_1ad0248d h0 h1 h3 v0 h1 h2 v1 x29 v3 v4 h2 g0 f5 h3 g1 f6)) hD hS hA [0, 1, 2, 3] rfl
    refine va_calli (va_runV (As := [.int 4]) (rest := []) ⟨hx, hb, hml, hown, hts⟩ (k_X3_readSum_2 l dC dI adK adV h0 h1 h2 h3 v0 v1 x29 v3 v4 g0 f5 g1 f6 ⟨by first | omega | decide, by first | omega | decide⟩ ⟨by first | omega | decide, by first | omega | decide⟩ H.size) (cwV 1 hts g_X3_readAtom_3_10 rfl rfl rfl (by decide +kernel) ⟨Nat.le_of_ble_eq_true rfl, Nat.le_of_ble_eq_true rfl⟩) ⟨fun a U g mk q => by obtain ⟨q0, q1, qP, qK, qD, n0, n1, n2⟩ := q; exact ⟨q0, q1, qP, va_K.moved (u := U) (U := U.calling g mk a) (Vm.Alike.refl U.vm) qK, qD, vk_R.same rfl n0, va_Z.moved (Vm.Alike.refl _) n1, vk_S.moved (Vm.Alike.refl _) n2⟩, va_recv hKc hPc (ci := 3) (q0 := 0) rfl rfl, fun U hU hW => ⟨rfl, by rw [hU], by rw [hU]; exact hPc, va_K.moved hW.alike hKc, hDc.weaken (fun _ _ _ _ => trivial), vk_R.warm hW h_vr_2, (by rw [hU]; exact (va_Z.moved hW.alike (va_Z.kept h_st_CS hS.2.1)).narrow hFc), (by rw [hU]; exact (vk_S.moved hW.alike (vk_S.kept h_st_S hS.2.1)).narrow hFc)⟩⟩ rfl rfl hl.1 rfl (lv_room (Nat.le_of_ble_eq_true rfl)) dX3_readAtom_31 ⟨Nat.le_of_ble_eq_true rfl, Nat.le_of_ble_eq_true rfl⟩) hS (fun q _ h => hFc q h) hFc (fun ra31 u t H1 locs ht hvm hwra31 hB hz1 hk1 hS => ?_)
    obtain ⟨x32, x33, x34, x35, fn36, oa_x32, ob_x32, hP1, hK1, hD1⟩ := hB
    rw [ht] at hP1
    obtain ⟨hP, hD⟩ := va_join (wr := []) (w1 := (wd_1ad0248d h0 h1 h3 x32 h1 h2 v1 x33 x34 x35 h2 g0 f5 h3 g1 fn36)) hP hD [0, 1, 2, 3] [] rfl rfl (by decide) (by decide) hk1 hFc hP1 hD1
    generalize H1 = H at hP hS ⊢
    have hP : va_P (dC, dI) vwCl (wd_1ad0248d h0 h1 h3 x32 h1 h2 v1 x33 x34 x35 h2 g0 f5 h3 g1 fn36) H := hP
    have hD : va_D A (wd_1ad0248d h0 h1 h3 x32 h1 h2 v1 x33 x34 x35 h2 g0 f5 h3 g1 fn36) := hD
    obtain ⟨wa_ra31, wb_ra31⟩ := hwra31
    have wa_ra31 : 0 ≤ ra31.toInt := wa_ra31
    have wb_ra31 : ra31.toInt ≤ 1 := wb_ra31
    have hJ40 : ∀ (x37 : Int32) (x38 : Int32) (x39 : Int32) (H : Heap) (locs : List Loc) (ls : Array Slot), 0 ≤ x37.toInt → x37.toInt ≤ 1 → va_P (dC, dI) vwCl (wd_1ad0248d h0 h1 h3 x32 h1 h2 v1 x38 x39 x35 h2 g0 f5 h3 g1 fn36) H → va_D A (wd_1ad0248d h0 h1 h3 x32 h1 h2 v1 x38 x39 x35 h2 g0 f5 h3 g1 fn36) → va_S A s.heap H locs → lv_has ls 4 [(2, .int ra1), (0, .ref h0), (1, .int 3)] → W p l e ({ frames := 13, cells := 0, slots := 0, locals := 298 }) s m ([.ref h0, .int 3] : List Value).toArray below meth c H locs 0 0 Q (F0 m 54 ls [.int x37]) := by
      intro x37 x38 x39 H locs ls qa_x37 qb_x37 hP hD hS hl
      subst hQ
      have hP9 := hP.sub (ws' := (wd_1ad0248d h0 h1 h3 x32 h1 h2 v1 x38 x39 x35 h2 g0 f5 h3 g1 fn36)) [0, 1, 2, 3] rfl
      have hD9 := hD.sub (ws' := (wd_1ad0248d h0 h1 h3 x32 h1 h2 v1 x38 x39 x35 h2 g0 f5 h3 g1 fn36)) [0, 1, 2, 3] (by decide) rfl
      have hK9 := hK.sub (tys' := []) [] rfl
      exact W.zret (v := x37) hx hb hr (pv_nz (by omega) (by omega)) (fun t ht hW => ⟨⟨x37, (), rfl, ⟨by first | omega | decide, by first | omega | decide⟩, x32, x38, x39, x35, fn36, by first | omega | decide, by first | omega | decide, by rw [ht]; exact hP9, va_K.moved hW.alike hK9, hD9⟩, hS.F ht⟩) hS.2.2 dX3_readAtom_54
    refine lv_if_eq (tgt := 53) hx hb dX3_readAtom_34 (by decide) (fun c41 => ?_) (fun c41 => ?_)
    · skip
      have fc41 : ra31.toInt = 0 := congrArg Int32.toInt c41
      refine lv_iconst (v := 0) hx hb dX3_readAtom_53 (by decide) ?_
      exact hJ40 0 x33 x34 H locs ls (by first | omega | decide) (by first | omega | decide) hP hD hS (lv_sub hl [0, 1, 2] rfl)
    · skip
      have fc41 : ¬ (ra31.toInt = 0) := fun h9 => c41 (Int32.toInt_inj.mp h9)
      refine lv_aload_n hx hb dX3_readAtom_37 rfl (lv_at hl 1 rfl) ?_
      refine va_get (D := (dC, dI)) (ci := 3) (v := .ref h1) (C := RX3) (T := TX3) (N := 3) hx hb hts (fun _ h => List.mem_cons_of_mem _ (List.mem_append_left _ (List.mem_append_right _ h))) hown hK hP 0 rfl rfl 0 (by decide) (hts (.fieldLink RX3 19 "LeftArguments$LawReader" "tape" "LLeftArguments$Tape;") (List.mem_cons_of_mem _ (List.mem_append_left _ (List.mem_append_left _ (List.mem_of_getElem? (i := 0) rfl))))) (fun _ h9 => h9) rfl dX3_readAtom_38 ?_
      refine lv_bipush (v := 93) hx hb dX3_readAtom_41 (by decide) ?_
      have hPc := hP.sub (ws' := (wd_82cdd16b h1 h2 v1 x33 x34 x35 h2 g0 f5)) [1, 2] rfl
      have hDc := hD.sub (ws' := (wd_82cdd16b h1 h2 v1 x33 x34 x35 h2 g0 f5)) [1, 2] (by decide) rfl
      have hKc := hK.sub (tys' := [(g0, .int)]) [0] rfl
      have hFc := va_free (wc := (wd_82cdd16b h1 h2 v1 x33 x34 x35 h2 g0 f5)) hD hS hA [1, 2] rfl
      refine va_calli (va_runV (As := [.int 93]) (rest := []) ⟨hx, hb, hml, hown, hts⟩ (k_X10_take l dC dI h1 h2 v1 x33 x34 x35 g0 f5 93 ⟨by first | omega | decide, by first | omega | decide⟩ H.size) (cwV 1 hts g_X3_readAtom_3_11 rfl rfl rfl (by decide +kernel) ⟨Nat.le_of_ble_eq_true rfl, Nat.le_of_ble_eq_true rfl⟩) ⟨fun a U g mk q => by obtain ⟨q0, q1, qP, qK, qD⟩ := q; exact ⟨q0, q1, qP, va_K.moved (u := U) (U := U.calling g mk a) (Vm.Alike.refl U.vm) qK, qD⟩, va_recv hKc hPc (ci := 10) (q0 := 0) rfl rfl, fun U hU hW => ⟨rfl, by rw [hU], by rw [hU]; exact hPc, va_K.moved hW.alike hKc, hDc.weaken (fun _ _ _ _ => trivial)⟩⟩ rfl rfl hl.1 rfl (lv_room (Nat.le_of_ble_eq_true rfl)) dX3_readAtom_43 ⟨Nat.le_of_ble_eq_true rfl, Nat.le_of_ble_eq_true rfl⟩) hS (fun q _ h => hFc q h) hFc (fun ra42 u t H1 locs ht hvm hwra42 hB hz1 hk1 hS => ?_)
      obtain ⟨x43, x44, hP1, hK1, hD1⟩ := hB
      rw [ht] at hP1
      obtain ⟨hP, hD⟩ := va_join (wr := (wd_b958b9da h0 h1 h3 x32 h3 g1 fn36)) (w1 := (wd_82cdd16b h1 h2 v1 x43 x44 x35 h2 g0 f5)) hP hD [1, 2] [0, 3] rfl rfl (by decide) (by decide) hk1 hFc hP1 hD1
      generalize H1 = H at hP hS ⊢
      have hP := hP.sub (ws' := (wd_1ad0248d h0 h1 h3 x32 h1 h2 v1 x43 x44 x35 h2 g0 f5 h3 g1 fn36)) [0, 2, 3, 1] rfl
      have hD := hD.sub (ws' := (wd_1ad0248d h0 h1 h3 x32 h1 h2 v1 x43 x44 x35 h2 g0 f5 h3 g1 fn36)) [0, 2, 3, 1] (by decide) rfl
      have hP : va_P (dC, dI) vwCl (wd_1ad0248d h0 h1 h3 x32 h1 h2 v1 x43 x44 x35 h2 g0 f5 h3 g1 fn36) H := hP
      have hD : va_D A (wd_1ad0248d h0 h1 h3 x32 h1 h2 v1 x43 x44 x35 h2 g0 f5 h3 g1 fn36) := hD
      obtain ⟨wa_ra42, wb_ra42⟩ := hwra42
      have wa_ra42 : 0 ≤ ra42.toInt := wa_ra42
      have wb_ra42 : ra42.toInt ≤ 1 := wb_ra42
      refine lv_if_eq (tgt := 53) hx hb dX3_readAtom_46 (by decide) (fun c45 => ?_) (fun c45 => ?_)
      · skip
        have fc45 : ra42.toInt = 0 := congrArg Int32.toInt c45
        refine lv_iconst (v := 0) hx hb dX3_readAtom_53 (by decide) ?_
        exact hJ40 0 x43 x44 H locs ls (by first | omega | decide) (by first | omega | decide) hP hD hS (lv_sub hl [0, 1, 2] rfl)
      · skip
        have fc45 : ¬ (ra42.toInt = 0) := fun h9 => c45 (Int32.toInt_inj.mp h9)
        refine lv_iconst (v := 1) hx hb dX3_readAtom_49 (by decide) ?_
        refine lv_goto (tgt := 54) hx hb dX3_readAtom_50 (by decide) ?_
        exact hJ40 1 x43 x44 H locs ls (by first | omega | decide) (by first | omega | decide) hP hD hS (lv_sub hl [0, 1, 2] rfl)
def q_X3_readTerm_3 : List Cond := .code yX3_readTerm cX3_readTerm 4 (some .boolean) :: (([.code yX3_readAtom cX3_readAtom 4 (some .boolean), .fieldLink RX3 19 "LeftArguments$LawReader" "tape" "LLeftArguments$Tape;", .code yX10_next cX10_next 1 (some .int), .fieldLink RX10 19 "LeftArguments$Tape" "at" "I", .fieldLink RX10 15 "LeftArguments$Tape" "used" "I", .fieldLink RX10 9 "LeftArguments$Tape" "bytes" "[I", .initialized RX10, .instanceMethod yX10_next, .selects RX10 yX10_next yX10_next, .methodLink RX3 48 yX10_next, .code yX10_isDigit cX10_isDigit 1 (some .boolean), .static yX10_isDigit, .methodLink RX3 92 yX10_isDigit, .code yX10_step cX10_step 1 none, .instanceMethod yX10_step, .selects RX10 yX10_step yX10_step, .methodLink RX3 77 yX10_step, .code yX3_write cX3_write 3 none, .fieldLink RX3 15 "LeftArguments$LawReader" "used" "I", .fieldLink RX3 11 "LeftArguments$LawReader" "code" "[I", .initialized RX3, .instanceMethod yX3_write, .selects RX3 yX3_write yX3_write, .methodLink RX3 66 yX3_write, .code yX10_wrongHere cX10_wrongHere 1 (some .boolean), .fieldLink RX10 22 "LeftArguments$Tape" "wrongAt" "I", .instanceMethod yX10_wrongHere, .selects RX10 yX10_wrongHere yX10_wrongHere, .methodLink RX3 83 yX10_wrongHere, .code yJ0_indexOf_0f7a4 cJ0_indexOf_0f7a4 2 (some .int), .code yJ0_indexOf_7cf53 cJ0_indexOf_7cf53 3 (some .int), .code yJ0_isLatin1_aae02 cJ0_isLatin1_aae02 1 (some .boolean), .fieldLink RJ0 38 "java/lang/String" "COMPACT_STRINGS" "Z", .fieldLink RJ0 15 "java/lang/String" "coder" "B", .initialized RJ0, .instanceMethod yJ0_isLatin1_aae02, .selects RJ0 yJ0_isLatin1_aae02 yJ0_isLatin1_aae02, .methodLink RJ0 492 yJ0_isLatin1_aae02, .fieldLink RJ0 9 "java/lang/String" "value" "[B", .code yJ0_length_8abf5 cJ0_length_8abf5 1 (some .int), .code yJ0_coder_7d493 cJ0_coder_7d493 1 (some .byte), .instanceMethod yJ0_coder_7d493, .selects RJ0 yJ0_coder_7d493 yJ0_coder_7d493, .methodLink RJ0 335 yJ0_coder_7d493, .instanceMethod yJ0_length_8abf5, .selects RJ0 yJ0_length_8abf5 yJ0_length_8abf5, .methodLink RJ0 505 yJ0_length_8abf5, .code yJ1_indexOf_4cfef cJ1_indexOf_4cfef 4 (some .int), .code yJ1_canEncode_9a6ad cJ1_canEncode_9a6ad 1 (some .boolean), .initialized RJ1, .static yJ1_canEncode_9a6ad, .methodLink RJ1 88 yJ1_canEncode_9a6ad, .methodLink RJ1 92 Lib.Math.max.name, .static Lib.Math.max.name, .initialized "java/lang/Math", .code Lib.Math.max.name Lib.Math.max.code 2 (some .int), .methodLink RJ1 38 Lib.Math.min.name, .static Lib.Math.min.name, .code Lib.Math.min.name Lib.Math.min.code 2 (some .int), .code yJ1_indexOfChar_4cfef cJ1_indexOfChar_4cfef 6 (some .int), .static yJ1_indexOfChar_4cfef, .methodLink RJ1 95 yJ1_indexOfChar_4cfef, .static yJ1_indexOf_4cfef, .methodLink RJ0 637 yJ1_indexOf_4cfef, .instanceMethod yJ0_indexOf_7cf53, .selects RJ0 yJ0_indexOf_7cf53 yJ0_indexOf_7cf53, .methodLink RJ0 633 yJ0_indexOf_7cf53, .instanceMethod yJ0_indexOf_0f7a4, .selects RJ0 yJ0_indexOf_0f7a4 yJ0_indexOf_0f7a4, .methodLink RX3 103 yJ0_indexOf_0f7a4, .code yX10_takeNumber cX10_takeNumber 3 (some .boolean), .methodLink RX10 37 yX10_next, .methodLink RX10 45 yX10_isDigit, .fieldLink RX10 25 "LeftArguments$Tape" "number" "I", .code yX10_sign cX10_sign 1 (some .int), .instanceMethod yX10_sign, .selects RX10 yX10_sign yX10_sign, .methodLink RX10 49 yX10_sign, .methodLink RX10 41 yX10_wrongHere, .instanceMethod yX10_takeNumber, .selects RX10 yX10_takeNumber yX10_takeNumber, .methodLink RX3 95 yX10_takeNumber, .code yX10_number cX10_number 1 (some .int), .instanceMethod yX10_number, .selects RX10 yX10_number yX10_number, .methodLink RX3 98 yX10_number, .code yX3_readSum cX3_readSum 4 (some .boolean), .code yX3_readTerm cX3_readTerm 4 (some .boolean), .instanceMethod yX3_readAtom, .selects RX3 yX3_readAtom yX3_readAtom, .methodLink RX3 89 yX3_readAtom, .instanceMethod yX3_readTerm, .selects RX3 yX3_readTerm yX3_readTerm, .methodLink RX3 86 yX3_readTerm, .instanceMethod yX3_readSum, .selects RX3 yX3_readSum yX3_readSum, .methodLink RX3 59 yX3_readSum, .code yX10_take cX10_take 2 (some .boolean), .instanceMethod yX10_take, .selects RX10 yX10_take yX10_take, .methodLink RX3 51 yX10_take] : List Cond) ++ wsX30 ++ wsX100)
set_option maxRecDepth 20000 in
theorem g_X3_readTerm_3_0 : GoodIn q_X3_readTerm_3 (wsV RX3 89 RX3 yX3_readAtom q_X3_readAtom_3) := goodIn_app (goodIn_r _ [91, 89, 90, 21] rfl (by decide +kernel)) (goodIn_ca (goodIn_ca (goodIn_r (.code yX3_readAtom cX3_readAtom 4 (some .boolean) :: [.fieldLink RX3 19 "LeftArguments$LawReader" "tape" "LLeftArguments$Tape;", .code yX10_next cX10_next 1 (some .int), .fieldLink RX10 19 "LeftArguments$Tape" "at" "I", .fieldLink RX10 15 "LeftArguments$Tape" "used" "I", .fieldLink RX10 9 "LeftArguments$Tape" "bytes" "[I", .initialized RX10, .instanceMethod yX10_next, .selects RX10 yX10_next yX10_next, .methodLink RX3 48 yX10_next, .code yX10_isDigit cX10_isDigit 1 (some .boolean), .static yX10_isDigit, .methodLink RX3 92 yX10_isDigit, .code yX10_step cX10_step 1 none, .instanceMethod yX10_step, .selects RX10 yX10_step yX10_step, .methodLink RX3 77 yX10_step, .code yX3_write cX3_write 3 none, .fieldLink RX3 15 "LeftArguments$LawReader" "used" "I", .fieldLink RX3 11 "LeftArguments$LawReader" "code" "[I", .initialized RX3, .instanceMethod yX3_write, .selects RX3 yX3_write yX3_write, .methodLink RX3 66 yX3_write, .code yX10_wrongHere cX10_wrongHere 1 (some .boolean), .fieldLink RX10 22 "LeftArguments$Tape" "wrongAt" "I", .instanceMethod yX10_wrongHere, .selects RX10 yX10_wrongHere yX10_wrongHere, .methodLink RX3 83 yX10_wrongHere, .code yJ0_indexOf_0f7a4 cJ0_indexOf_0f7a4 2 (some .int), .code yJ0_indexOf_7cf53 cJ0_indexOf_7cf53 3 (some .int), .code yJ0_isLatin1_aae02 cJ0_isLatin1_aae02 1 (some .boolean), .fieldLink RJ0 38 "java/lang/String" "COMPACT_STRINGS" "Z", .fieldLink RJ0 15 "java/lang/String" "coder" "B", .initialized RJ0, .instanceMethod yJ0_isLatin1_aae02, .selects RJ0 yJ0_isLatin1_aae02 yJ0_isLatin1_aae02, .methodLink RJ0 492 yJ0_isLatin1_aae02, .fieldLink RJ0 9 "java/lang/String" "value" "[B", .code yJ0_length_8abf5 cJ0_length_8abf5 1 (some .int), .code yJ0_coder_7d493 cJ0_coder_7d493 1 (some .byte), .instanceMethod yJ0_coder_7d493, .selects RJ0 yJ0_coder_7d493 yJ0_coder_7d493, .methodLink RJ0 335 yJ0_coder_7d493, .instanceMethod yJ0_length_8abf5, .selects RJ0 yJ0_length_8abf5 yJ0_length_8abf5, .methodLink RJ0 505 yJ0_length_8abf5, .code yJ1_indexOf_4cfef cJ1_indexOf_4cfef 4 (some .int), .code yJ1_canEncode_9a6ad cJ1_canEncode_9a6ad 1 (some .boolean), .initialized RJ1, .static yJ1_canEncode_9a6ad, .methodLink RJ1 88 yJ1_canEncode_9a6ad, .methodLink RJ1 92 Lib.Math.max.name, .static Lib.Math.max.name, .initialized "java/lang/Math", .code Lib.Math.max.name Lib.Math.max.code 2 (some .int), .methodLink RJ1 38 Lib.Math.min.name, .static Lib.Math.min.name, .code Lib.Math.min.name Lib.Math.min.code 2 (some .int), .code yJ1_indexOfChar_4cfef cJ1_indexOfChar_4cfef 6 (some .int), .static yJ1_indexOfChar_4cfef, .methodLink RJ1 95 yJ1_indexOfChar_4cfef, .static yJ1_indexOf_4cfef, .methodLink RJ0 637 yJ1_indexOf_4cfef, .instanceMethod yJ0_indexOf_7cf53, .selects RJ0 yJ0_indexOf_7cf53 yJ0_indexOf_7cf53, .methodLink RJ0 633 yJ0_indexOf_7cf53, .instanceMethod yJ0_indexOf_0f7a4, .selects RJ0 yJ0_indexOf_0f7a4 yJ0_indexOf_0f7a4, .methodLink RX3 103 yJ0_indexOf_0f7a4, .code yX10_takeNumber cX10_takeNumber 3 (some .boolean), .methodLink RX10 37 yX10_next, .methodLink RX10 45 yX10_isDigit, .fieldLink RX10 25 "LeftArguments$Tape" "number" "I", .code yX10_sign cX10_sign 1 (some .int), .instanceMethod yX10_sign, .selects RX10 yX10_sign yX10_sign, .methodLink RX10 49 yX10_sign, .methodLink RX10 41 yX10_wrongHere, .instanceMethod yX10_takeNumber, .selects RX10 yX10_takeNumber yX10_takeNumber, .methodLink RX3 95 yX10_takeNumber, .code yX10_number cX10_number 1 (some .int), .instanceMethod yX10_number, .selects RX10 yX10_number yX10_number, .methodLink RX3 98 yX10_number, .code yX3_readSum cX3_readSum 4 (some .boolean), .code yX3_readTerm cX3_readTerm 4 (some .boolean), .code yX3_readAtom cX3_readAtom 4 (some .boolean), .instanceMethod yX3_readAtom, .selects RX3 yX3_readAtom yX3_readAtom, .methodLink RX3 89 yX3_readAtom, .instanceMethod yX3_readTerm, .selects RX3 yX3_readTerm yX3_readTerm, .methodLink RX3 86 yX3_readTerm, .instanceMethod yX3_readSum, .selects RX3 yX3_readSum yX3_readSum, .methodLink RX3 59 yX3_readSum, .code yX10_take cX10_take 2 (some .boolean), .instanceMethod yX10_take, .selects RX10 yX10_take yX10_take, .methodLink RX3 51 yX10_take]) [1, 2, 3, 4, 5, 6, 7, 8, 9, 10, 11, 12, 13, 14, 15, 16, 17, 18, 19, 20, 21, 22, 23, 24, 25, 26, 27, 28, 29, 30, 31, 32, 33, 34, 35, 36, 37, 38, 39, 40, 41, 42, 43, 44, 45, 46, 47, 48, 49, 50, 51, 52, 53, 54, 55, 56, 57, 58, 59, 60, 61, 62, 63, 64, 65, 66, 67, 68, 69, 70, 71, 72, 73, 74, 75, 76, 77, 78, 79, 80, 81, 82, 83, 84, 85, 86, 87, 88, 1, 89, 90, 91, 92, 93, 94, 95, 96, 97, 98, 99, 100, 101] rfl (by decide +kernel)) (goodIn_sub (fun _ h => List.mem_cons_of_mem _ (List.mem_append_left _ (List.mem_append_right _ h))) gwX3)) (goodIn_sub (fun _ h => List.mem_cons_of_mem _ (List.mem_append_right _ h)) gwX10))
set_option maxRecDepth 20000 in
theorem g_X3_readTerm_3_1 : GoodIn q_X3_readTerm_3 (wsV RX3 48 RX10 yX10_next q_X10_next) := goodIn_app (goodIn_r _ [10, 8, 9, 7] rfl (by decide +kernel)) (goodIn_ca (goodIn_r (.code yX10_next cX10_next 1 (some .int) :: [.fieldLink RX10 19 "LeftArguments$Tape" "at" "I", .fieldLink RX10 15 "LeftArguments$Tape" "used" "I", .fieldLink RX10 9 "LeftArguments$Tape" "bytes" "[I"]) [3, 4, 5, 6] rfl (by decide +kernel)) (goodIn_sub (fun _ h => List.mem_cons_of_mem _ (List.mem_append_right _ h)) gwX10))
set_option maxRecDepth 20000 in
theorem g_X3_readTerm_3_2 : GoodIn q_X3_readTerm_3 (wsV RX3 77 RX10 yX10_step q_X10_step) := goodIn_app (goodIn_r _ [17, 15, 16, 7] rfl (by decide +kernel)) (goodIn_ca (goodIn_r (.code yX10_step cX10_step 1 none :: [.fieldLink RX10 19 "LeftArguments$Tape" "at" "I"]) [14, 4] rfl (by decide +kernel)) (goodIn_sub (fun _ h => List.mem_cons_of_mem _ (List.mem_append_right _ h)) gwX10))
set_option maxRecDepth 20000 in
theorem g_X3_readTerm_3_4 : GoodIn q_X3_readTerm_3 (wsV RX3 66 RX3 yX3_write q_X3_write) := goodIn_app (goodIn_r _ [24, 22, 23, 21] rfl (by decide +kernel)) (goodIn_ca (goodIn_r (.code yX3_write cX3_write 3 none :: [.fieldLink RX3 15 "LeftArguments$LawReader" "used" "I", .fieldLink RX3 11 "LeftArguments$LawReader" "code" "[I"]) [18, 19, 20] rfl (by decide +kernel)) (goodIn_sub (fun _ h => List.mem_cons_of_mem _ (List.mem_append_left _ (List.mem_append_right _ h))) gwX3))
set_option maxHeartbeats 4000000 in
set_option maxRecDepth 100000 in
theorem k_X3_readTerm_3 (l : Launch) (dC : Nat → ClassId) (dI : Nat → Nat → Nat) (adK : Nat → Nat) (adV : Nat → Nat) (h0 : Nat) (h1 : Nat) (h2 : Nat) (h3 : Nat) (v0 : Int32) (v1 : Int32) (v2 : Int32) (v3 : Int32) (v4 : Int32) (g0 : ClassId) (f5 : Nat → Int32) (g1 : ClassId) (f6 : Nat → Int32) (i_v0 : 0 ≤ v0.toInt ∧ v0.toInt ≤ 256) (i_v1 : 0 ≤ v1.toInt ∧ v1.toInt ≤ 240) (sz : Nat) : Met l yX3_readTerm q_X3_readTerm_3 ({ frames := 14, cells := 0, slots := 0, locals := 321 }) (va_Pc [.ref h0, .int 3] (fun U => U.heap.size = sz ∧ va_P (dC, dI) vwCl (wd_1ad0248d h0 h1 h3 v0 h1 h2 v1 v2 v3 v4 h2 g0 f5 h3 g1 f6) U.heap ∧ va_K (dC, dI) vwCl [(g0, .int), (g1, .int)] U ∧ va_D (fun _ => True) (wd_1ad0248d h0 h1 h3 v0 h1 h2 v1 v2 v3 v4 h2 g0 f5 h3 g1 f6) ∧ vk_R RX3 101 "zaondt" (adK 2) U ∧ va_Z "java/lang/String" "COMPACT_STRINGS" "Z" (.int 1) (va_A (wd_1ad0248d h0 h1 h3 v0 h1 h2 v1 v2 v3 v4 h2 g0 f5 h3 g1 f6) sz) U U.heap ∧ vk_S 3 pv_len3 pv_byt3 adK adV (va_A (wd_1ad0248d h0 h1 h3 v0 h1 h2 v1 v2 v3 v4 h2 g0 f5 h3 g1 f6) sz) U U.heap)) (va_Qi (fun (r : Int32) (_ : Unit) => 0 ≤ r.toInt ∧ r.toInt ≤ 1) (fun (_ : Unit) (t : State) => ∃ (o_h0_2 : Int32) (o_h1_2 : Int32) (o_h1_3 : Int32) (o_h1_4 : Int32) (o_h3 : Nat → Int32), 0 ≤ o_h0_2.toInt ∧ o_h0_2.toInt ≤ 256 ∧ va_P (dC, dI) vwCl (wd_1ad0248d h0 h1 h3 o_h0_2 h1 h2 v1 o_h1_2 o_h1_3 o_h1_4 h2 g0 f5 h3 g1 o_h3) t.heap ∧ va_K (dC, dI) vwCl [] t ∧ va_D (va_A (wd_1ad0248d h0 h1 h3 v0 h1 h2 v1 v2 v3 v4 h2 g0 f5 h3 g1 f6) sz) (wd_1ad0248d h0 h1 h3 o_h0_2 h1 h2 v1 o_h1_2 o_h1_3 o_h1_4 h2 g0 f5 h3 g1 o_h3)) (va_A (wd_1ad0248d h0 h1 h3 v0 h1 h2 v1 v2 v3 v4 h2 g0 f5 h3 g1 f6) sz)) 0 0 (va_A (wd_1ad0248d h0 h1 h3 v0 h1 h2 v1 v2 v3 v4 h2 g0 f5 h3 g1 f6) sz) := by
  refine Met.ofW (cc := cX3_readTerm) (maxL := 4) (ret := (some .boolean)) (by decide) rfl ?_
  intro p e s m args below meth c s₁ B hml hv
  obtain ⟨i_v0a, i_v0b⟩ := i_v0
  obtain ⟨i_v1a, i_v1b⟩ := i_v1
  obtain ⟨rfl, hsz, hP, hK, hD0, h_vr_2, h_st_CS, h_st_S⟩ := hv
  have hx := B.exec
  have hb := B.bytes
  have hr := B.returns
  have hts := atoms_spec (ws := q_X3_readTerm_3) B.pre
  have hown : s.vm.findClass RX3 = some m.cls := findClass_of_methodNamed B.named
  have hlocks := B.notSynchronized
  subst hsz
  have hD := hD0.self (sz := s.heap.size)
  generalize hAe : va_A (wd_1ad0248d h0 h1 h3 v0 h1 h2 v1 v2 v3 v4 h2 g0 f5 h3 g1 f6) s.heap.size = A at hD h_st_CS h_st_S ⊢
  have hA : ∀ q : Nat, s.heap.size ≤ q → A q := fun q h => by rw [← hAe]; exact Or.inr h
  have hS : va_S A s.heap s.heap [] := va_S.rf
  generalize hQ : (MQ below _ _ s 0 0 A) = Q
  have hl := lv_entry ([.ref h0, .int 3]) (n := 4) (Nat.le_of_ble_eq_true rfl)
  rw [lg_entry_eq]
  generalize (lg_sl ([.ref h0, .int 3]) ++ List.replicate (4 - (lg_sl ([.ref h0, .int 3])).length) Slot.unset).toArray = ls at hl ⊢
  have hl : lv_has ls 4 [(0, .ref h0), (1, .int 3)] := hl
  obtain ⟨H, hH⟩ : ∃ H : Heap, H = s.heap := ⟨_, rfl⟩
  obtain ⟨locs, hlocs⟩ : ∃ y : List Loc, y = [] := ⟨_, rfl⟩
  have hS : va_S A s.heap H locs := by rw [hH, hlocs]; exact va_S.rf
  have hP : va_P (dC, dI) vwCl (wd_1ad0248d h0 h1 h3 v0 h1 h2 v1 v2 v3 v4 h2 g0 f5 h3 g1 f6) H := by rw [hH]; exact hP
  rw [← hH, ← hlocs]
  refine lv_aload_n hx hb dX3_readTerm_0 rfl (lv_at hl 0 rfl) ?_
  refine lv_iload_n hx hb dX3_readTerm_1 rfl (lv_at hl 1 rfl) ?_
  have hPc := hP.sub (ws' := (wd_1ad0248d h0 h1 h3 v0 h1 h2 v1 v2 v3 v4 h2 g0 f5 h3 g1 f6)) [0, 1, 2, 3] rfl
  have hDc := hD.sub (ws' := (wd_1ad0248d h0 h1 h3 v0 h1 h2 v1 v2 v3 v4 h2 g0 f5 h3 g1 f6)) [0, 1, 2, 3] (by decide) rfl
  have hKc := hK.sub (tys' := [(g0, .int), (g1, .int)]) [0, 1] rfl
  have hFc := va_free (wc := (wd_1ad0248d h0 h1 h3 v0 h1 h2 v1 v2 v3 v4 h2 g0 f5 h3 g1 f6)) hD hS hA [0, 1, 2, 3] rfl
  refine va_calli (va_runV (As := [.int 3]) (rest := []) ⟨hx, hb, hml, hown, hts⟩ (k_X3_readAtom_3 l dC dI adK adV h0 h1 h2 h3 v0 v1 v2 v3 v4 g0 f5 g1 f6 ⟨by first | omega | decide, by first | omega | decide⟩ ⟨by first | omega | decide, by first | omega | decide⟩ H.size) (cwV 1 hts g_X3_readTerm_3_0 rfl rfl rfl (by decide +kernel) ⟨Nat.le_of_ble_eq_true rfl, Nat.le_of_ble_eq_true rfl⟩) ⟨fun a U g mk q => by obtain ⟨q0, q1, qP, qK, qD, n0, n1, n2⟩ := q; exact ⟨q0, q1, qP, va_K.moved (u := U) (U := U.calling g mk a) (Vm.Alike.refl U.vm) qK, qD, vk_R.same rfl n0, va_Z.moved (Vm.Alike.refl _) n1, vk_S.moved (Vm.Alike.refl _) n2⟩, va_recv hKc hPc (ci := 3) (q0 := 0) rfl rfl, fun U hU hW => ⟨rfl, by rw [hU], by rw [hU]; exact hPc, va_K.moved hW.alike hKc, hDc.weaken (fun _ _ _ _ => trivial), vk_R.warm hW h_vr_2, (by rw [hU]; exact (va_Z.moved hW.alike (va_Z.kept h_st_CS hS.2.1)).narrow hFc), (by rw [hU]; exact (vk_S.moved hW.alike (vk_S.kept h_st_S hS.2.1)).narrow hFc)⟩⟩ rfl rfl hl.1 rfl (lv_room (Nat.le_of_ble_eq_true rfl)) dX3_readTerm_2 ⟨Nat.le_of_ble_eq_true rfl, Nat.le_of_ble_eq_true rfl⟩) hS (fun q _ h => hFc q h) hFc (fun ra1 u t H1 locs ht hvm hwra1 hB hz1 hk1 hS => ?_)
  obtain ⟨x2, x3, x4, x5, fn6, oa_x2, ob_x2, hP1, hK1, hD1⟩ := hB
  rw [ht] at hP1
  obtain ⟨hP, hD⟩ := va_join (wr := []) (w1 := (wd_1ad0248d h0 h1 h3 x2 h1 h2 v1 x3 x4 x5 h2 g0 f5 h3 g1 fn6)) hP hD [0, 1, 2, 3] [] rfl rfl (by decide) (by decide) hk1 hFc hP1 hD1
  generalize H1 = H at hP hS ⊢
  have hP : va_P (dC, dI) vwCl (wd_1ad0248d h0 h1 h3 x2 h1 h2 v1 x3 x4 x5 h2 g0 f5 h3 g1 fn6) H := hP
  have hD : va_D A (wd_1ad0248d h0 h1 h3 x2 h1 h2 v1 x3 x4 x5 h2 g0 f5 h3 g1 fn6) := hD
  obtain ⟨wa_ra1, wb_ra1⟩ := hwra1
  have wa_ra1 : 0 ≤ ra1.toInt := wa_ra1
  have wb_ra1 : ra1.toInt ≤ 1 := wb_ra1
  refine lv_if_ne (tgt := 10) hx hb dX3_readTerm_5 (by decide) (fun c7 => ?_) (fun c7 => ?_)
  · skip
    have fc7 : ¬ (ra1.toInt = 0) := fun h9 => c7 (Int32.toInt_inj.mp h9)
    refine lv_iconst (v := 0) hx hb dX3_readTerm_10 (by decide) ?_
    refine lv_istore_n (lv' := [(2, .int 0), (0, .ref h0), (1, .int 3)]) hx hb dX3_readTerm_11 rfl hl (by decide) rfl (fun ls hl => ?_)
    have hL122 : ∀ (n9 : Nat), ∀ (x110 : Int32) (x111 : Int32) (x112 : Int32) (x113 : Int32) (x114 : Int32) (fn115 : Nat → Int32) (H : Heap) (locs : List Loc) (ls : Array Slot), 0 ≤ x110.toInt → x110.toInt ≤ 240 → 0 ≤ x111.toInt → x111.toInt ≤ 256 → (240 - x110.toInt).toNat < n9 → va_P (dC, dI) vwCl (wd_1ad0248d h0 h1 h3 x111 h1 h2 v1 x112 x113 x114 h2 g0 f5 h3 g1 fn115) H → va_D A (wd_1ad0248d h0 h1 h3 x111 h1 h2 v1 x112 x113 x114 h2 g0 f5 h3 g1 fn115) → va_S A s.heap H locs → lv_has ls 4 [(2, .int x110), (0, .ref h0), (1, .int 3)] → W p l e ({ frames := 14, cells := 0, slots := 0, locals := 321 }) s m ([.ref h0, .int 3] : List Value).toArray below meth c H locs 0 0 Q (F0 m 12 ls []) := by
      intro n9
      induction n9 with
      | zero => intro x110 x111 x112 x113 x114 fn115 H locs ls qa_x110 qb_x110 qa_x111 qb_x111 hm9 hP hD hS hl; exact absurd hm9 (Nat.not_lt_zero _)
      | succ n9 ih_hL122 =>
        intro x110 x111 x112 x113 x114 fn115 H locs ls qa_x110 qb_x110 qa_x111 qb_x111 hm9 hP hD hS hl
        refine lv_iload_n hx hb dX3_readTerm_12 rfl (lv_at hl 0 rfl) ?_
        refine lv_sipush (v := 240) hx hb dX3_readTerm_13 (by decide) ?_
        refine lv_icmp_ge (tgt := 80) hx hb dX3_readTerm_16 (by decide) (fun c123 => ?_) (fun c123 => ?_)
        · skip
          have fc123 : 240 ≤ x110.toInt := Int32.le_iff_toInt_le.mp c123
          refine lv_iconst (v := 1) hx hb dX3_readTerm_80 (by decide) ?_
          subst hQ
          have hP9 := hP.sub (ws' := (wd_1ad0248d h0 h1 h3 x111 h1 h2 v1 x112 x113 x114 h2 g0 f5 h3 g1 fn115)) [0, 1, 2, 3] rfl
          have hD9 := hD.sub (ws' := (wd_1ad0248d h0 h1 h3 x111 h1 h2 v1 x112 x113 x114 h2 g0 f5 h3 g1 fn115)) [0, 1, 2, 3] (by decide) rfl
          have hK9 := hK.sub (tys' := []) [] rfl
          exact W.zret (v := 1) hx hb hr rfl (fun t ht hW => ⟨⟨1, (), rfl, ⟨by first | omega | decide, by first | omega | decide⟩, x111, x112, x113, x114, fn115, by first | omega | decide, by first | omega | decide, by rw [ht]; exact hP9, va_K.moved hW.alike hK9, hD9⟩, hS.F ht⟩) hS.2.2 dX3_readTerm_81
        · skip
          have fc123 : ¬ (240 ≤ x110.toInt) := fun h9 => c123 (Int32.le_iff_toInt_le.mpr h9)
          refine lv_aload_n hx hb dX3_readTerm_19 rfl (lv_at hl 1 rfl) ?_
          refine va_get (D := (dC, dI)) (ci := 3) (v := .ref h1) (C := RX3) (T := TX3) (N := 3) hx hb hts (fun _ h => List.mem_cons_of_mem _ (List.mem_append_left _ (List.mem_append_right _ h))) hown hK hP 0 rfl rfl 0 (by decide) (hts (.fieldLink RX3 19 "LeftArguments$LawReader" "tape" "LLeftArguments$Tape;") (List.mem_cons_of_mem _ (List.mem_append_left _ (List.mem_append_left _ (List.mem_of_getElem? (i := 1) rfl))))) (fun _ h9 => h9) rfl dX3_readTerm_20 ?_
          have hPc := hP.sub (ws' := (wd_82cdd16b h1 h2 v1 x112 x113 x114 h2 g0 f5)) [1, 2] rfl
          have hDc := hD.sub (ws' := (wd_82cdd16b h1 h2 v1 x112 x113 x114 h2 g0 f5)) [1, 2] (by decide) rfl
          have hKc := hK.sub (tys' := [(g0, .int)]) [0] rfl
          have hFc := va_free (wc := (wd_82cdd16b h1 h2 v1 x112 x113 x114 h2 g0 f5)) hD hS hA [1, 2] rfl
          refine va_calli (va_runV (As := []) (rest := []) ⟨hx, hb, hml, hown, hts⟩ (k_X10_next l dC dI h1 h2 v1 x112 x113 x114 g0 f5 ⟨by first | omega | decide, by first | omega | decide⟩ H.size) (cwV 0 hts g_X3_readTerm_3_1 rfl rfl rfl (by decide +kernel) ⟨Nat.le_of_ble_eq_true rfl, Nat.le_of_ble_eq_true rfl⟩) ⟨fun a U g mk q => by obtain ⟨q0, q1, qP, qK, qD⟩ := q; exact ⟨q0, q1, qP, va_K.moved (u := U) (U := U.calling g mk a) (Vm.Alike.refl U.vm) qK, qD⟩, va_recv hKc hPc (ci := 10) (q0 := 0) rfl rfl, fun U hU hW => ⟨rfl, by rw [hU], by rw [hU]; exact hPc, va_K.moved hW.alike hKc, hDc.weaken (fun _ _ _ _ => trivial)⟩⟩ rfl rfl hl.1 rfl (lv_room (Nat.le_of_ble_eq_true rfl)) dX3_readTerm_23 ⟨Nat.le_of_ble_eq_true rfl, Nat.le_of_ble_eq_true rfl⟩) hS (fun q _ h => hFc q h) hFc (fun ra124 u t H1 locs ht hvm hwra124 hB hz1 hk1 hS => ?_)
          obtain ⟨x125, hP1, hK1, hD1⟩ := hB
          rw [ht] at hP1
          obtain ⟨hP, hD⟩ := va_join (wr := (wd_b958b9da h0 h1 h3 x111 h3 g1 fn115)) (w1 := (wd_82cdd16b h1 h2 v1 x125 x113 x114 h2 g0 f5)) hP hD [1, 2] [0, 3] rfl rfl (by decide) (by decide) hk1 hFc hP1 hD1
          generalize H1 = H at hP hS ⊢
          have hP := hP.sub (ws' := (wd_1ad0248d h0 h1 h3 x111 h1 h2 v1 x125 x113 x114 h2 g0 f5 h3 g1 fn115)) [0, 2, 3, 1] rfl
          have hD := hD.sub (ws' := (wd_1ad0248d h0 h1 h3 x111 h1 h2 v1 x125 x113 x114 h2 g0 f5 h3 g1 fn115)) [0, 2, 3, 1] (by decide) rfl
          have hP : va_P (dC, dI) vwCl (wd_1ad0248d h0 h1 h3 x111 h1 h2 v1 x125 x113 x114 h2 g0 f5 h3 g1 fn115) H := hP
          have hD : va_D A (wd_1ad0248d h0 h1 h3 x111 h1 h2 v1 x125 x113 x114 h2 g0 f5 h3 g1 fn115) := hD
          refine lv_istore_n (lv' := [(3, .int ra124), (2, .int x110), (0, .ref h0), (1, .int 3)]) hx hb dX3_readTerm_26 rfl hl (by decide) rfl (fun ls hl => ?_)
          refine lv_iload_n hx hb dX3_readTerm_27 rfl (lv_at hl 0 rfl) ?_
          refine lv_bipush (v := 42) hx hb dX3_readTerm_28 (by decide) ?_
          refine lv_icmp_eq (tgt := 41) hx hb dX3_readTerm_30 (by decide) (fun c126 => ?_) (fun c126 => ?_)
          · skip
            have fc126 : ra124.toInt = 42 := congrArg Int32.toInt c126
            refine lv_aload_n hx hb dX3_readTerm_41 rfl (lv_at hl 2 rfl) ?_
            refine va_get (D := (dC, dI)) (ci := 3) (v := .ref h1) (C := RX3) (T := TX3) (N := 3) hx hb hts (fun _ h => List.mem_cons_of_mem _ (List.mem_append_left _ (List.mem_append_right _ h))) hown hK hP 0 rfl rfl 0 (by decide) (hts (.fieldLink RX3 19 "LeftArguments$LawReader" "tape" "LLeftArguments$Tape;") (List.mem_cons_of_mem _ (List.mem_append_left _ (List.mem_append_left _ (List.mem_of_getElem? (i := 1) rfl))))) (fun _ h9 => h9) rfl dX3_readTerm_42 ?_
            have hPc := hP.sub (ws' := (wd_09b0abee h1 h2 v1 x125 x113 x114)) [1] rfl
            have hDc := hD.sub (ws' := (wd_09b0abee h1 h2 v1 x125 x113 x114)) [1] (by decide) rfl
            have hKc := hK.sub (tys' := []) [] rfl
            have hFc := va_free (wc := (wd_09b0abee h1 h2 v1 x125 x113 x114)) hD hS hA [1] rfl
            refine va_callv (va_runV (As := []) (rest := []) ⟨hx, hb, hml, hown, hts⟩ (k_X10_step l dC dI h1 h2 v1 x125 x113 x114 ⟨by first | omega | decide, by first | omega | decide⟩ H.size) (cwV 0 hts g_X3_readTerm_3_2 rfl rfl rfl (by decide +kernel) ⟨Nat.le_of_ble_eq_true rfl, Nat.le_of_ble_eq_true rfl⟩) ⟨fun a U g mk q => by obtain ⟨q0, q1, qP, qK, qD⟩ := q; exact ⟨q0, q1, qP, va_K.moved (u := U) (U := U.calling g mk a) (Vm.Alike.refl U.vm) qK, qD⟩, va_recv hKc hPc (ci := 10) (q0 := 0) rfl rfl, fun U hU hW => ⟨rfl, by rw [hU], by rw [hU]; exact hPc, va_K.moved hW.alike hKc, hDc.weaken (fun _ _ _ _ => trivial)⟩⟩ rfl rfl hl.1 rfl (lv_room (Nat.le_of_ble_eq_true rfl)) dX3_readTerm_45 ⟨Nat.le_of_ble_eq_true rfl, Nat.le_of_ble_eq_true rfl⟩) hS (fun q _ h => hFc q h) hFc (fun u t H1 locs ht hvm hwra127 hB hz1 hk1 hS => ?_)
            obtain ⟨x128, hP1, hK1, hD1⟩ := hB
            rw [ht] at hP1
            obtain ⟨hP, hD⟩ := va_join (wr := (wd_6b0d8e05 h0 h1 h3 x111 h2 g0 f5 h3 g1 fn115)) (w1 := (wd_09b0abee h1 h2 v1 x128 x113 x114)) hP hD [1] [0, 2, 3] rfl rfl (by decide) (by decide) hk1 hFc hP1 hD1
            generalize H1 = H at hP hS ⊢
            have hP := hP.sub (ws' := (wd_1ad0248d h0 h1 h3 x111 h1 h2 v1 x128 x113 x114 h2 g0 f5 h3 g1 fn115)) [0, 3, 1, 2] rfl
            have hD := hD.sub (ws' := (wd_1ad0248d h0 h1 h3 x111 h1 h2 v1 x128 x113 x114 h2 g0 f5 h3 g1 fn115)) [0, 3, 1, 2] (by decide) rfl
            have hP : va_P (dC, dI) vwCl (wd_1ad0248d h0 h1 h3 x111 h1 h2 v1 x128 x113 x114 h2 g0 f5 h3 g1 fn115) H := hP
            have hD : va_D A (wd_1ad0248d h0 h1 h3 x111 h1 h2 v1 x128 x113 x114 h2 g0 f5 h3 g1 fn115) := hD
            refine lv_aload_n hx hb dX3_readTerm_48 rfl (lv_at hl 2 rfl) ?_
            refine lv_iload_n hx hb dX3_readTerm_49 rfl (lv_at hl 3 rfl) ?_
            have hPc := hP.sub (ws' := (wd_1ad0248d h0 h1 h3 x111 h1 h2 v1 x128 x113 x114 h2 g0 f5 h3 g1 fn115)) [0, 1, 2, 3] rfl
            have hDc := hD.sub (ws' := (wd_1ad0248d h0 h1 h3 x111 h1 h2 v1 x128 x113 x114 h2 g0 f5 h3 g1 fn115)) [0, 1, 2, 3] (by decide) rfl
            have hKc := hK.sub (tys' := [(g0, .int), (g1, .int)]) [0, 1] rfl
            have hFc := va_free (wc := (wd_1ad0248d h0 h1 h3 x111 h1 h2 v1 x128 x113 x114 h2 g0 f5 h3 g1 fn115)) hD hS hA [0, 1, 2, 3] rfl
            refine va_calli (va_runV (As := [.int 3]) (rest := []) ⟨hx, hb, hml, hown, hts⟩ (k_X3_readAtom_3 l dC dI adK adV h0 h1 h2 h3 x111 v1 x128 x113 x114 g0 f5 g1 fn115 ⟨by first | omega | decide, by first | omega | decide⟩ ⟨by first | omega | decide, by first | omega | decide⟩ H.size) (cwV 1 hts g_X3_readTerm_3_0 rfl rfl rfl (by decide +kernel) ⟨Nat.le_of_ble_eq_true rfl, Nat.le_of_ble_eq_true rfl⟩) ⟨fun a U g mk q => by obtain ⟨q0, q1, qP, qK, qD, n0, n1, n2⟩ := q; exact ⟨q0, q1, qP, va_K.moved (u := U) (U := U.calling g mk a) (Vm.Alike.refl U.vm) qK, qD, vk_R.same rfl n0, va_Z.moved (Vm.Alike.refl _) n1, vk_S.moved (Vm.Alike.refl _) n2⟩, va_recv hKc hPc (ci := 3) (q0 := 0) rfl rfl, fun U hU hW => ⟨rfl, by rw [hU], by rw [hU]; exact hPc, va_K.moved hW.alike hKc, hDc.weaken (fun _ _ _ _ => trivial), vk_R.warm hW h_vr_2, (by rw [hU]; exact (va_Z.moved hW.alike (va_Z.kept h_st_CS hS.2.1)).narrow hFc), (by rw [hU]; exact (vk_S.moved hW.alike (vk_S.kept h_st_S hS.2.1)).narrow hFc)⟩⟩ rfl rfl hl.1 rfl (lv_room (Nat.le_of_ble_eq_true rfl)) dX3_readTerm_50 ⟨Nat.le_of_ble_eq_true rfl, Nat.le_of_ble_eq_true rfl⟩) hS (fun q _ h => hFc q h) hFc (fun ra129 u t H1 locs ht hvm hwra129 hB hz1 hk1 hS => ?_)
            obtain ⟨x130, x131, x132, x133, fn134, oa_x130, ob_x130, hP1, hK1, hD1⟩ := hB
            rw [ht] at hP1
            obtain ⟨hP, hD⟩ := va_join (wr := []) (w1 := (wd_1ad0248d h0 h1 h3 x130 h1 h2 v1 x131 x132 x133 h2 g0 f5 h3 g1 fn134)) hP hD [0, 1, 2, 3] [] rfl rfl (by decide) (by decide) hk1 hFc hP1 hD1
            generalize H1 = H at hP hS ⊢
            have hP : va_P (dC, dI) vwCl (wd_1ad0248d h0 h1 h3 x130 h1 h2 v1 x131 x132 x133 h2 g0 f5 h3 g1 fn134) H := hP
            have hD : va_D A (wd_1ad0248d h0 h1 h3 x130 h1 h2 v1 x131 x132 x133 h2 g0 f5 h3 g1 fn134) := hD
            obtain ⟨wa_ra129, wb_ra129⟩ := hwra129
            have wa_ra129 : 0 ≤ ra129.toInt := wa_ra129
            have wb_ra129 : ra129.toInt ≤ 1 := wb_ra129
            refine lv_if_ne (tgt := 58) hx hb dX3_readTerm_53 (by decide) (fun c135 => ?_) (fun c135 => ?_)
            · skip
              have fc135 : ¬ (ra129.toInt = 0) := fun h9 => c135 (Int32.toInt_inj.mp h9)
              refine lv_aload_n hx hb dX3_readTerm_58 rfl (lv_at hl 2 rfl) ?_
              refine lv_iload_n hx hb dX3_readTerm_59 rfl (lv_at hl 0 rfl) ?_
              refine lv_bipush (v := 42) hx hb dX3_readTerm_60 (by decide) ?_
              refine lv_icmp_ne (tgt := 69) hx hb dX3_readTerm_62 (by decide) (fun c136 => by exfalso; have fc136 : ¬ (ra124.toInt = 42) := fun h9 => c136 (Int32.toInt_inj.mp h9); omega) (fun _ => ?_)
              refine lv_iconst (v := 4) hx hb dX3_readTerm_65 (by decide) ?_
              refine lv_goto (tgt := 70) hx hb dX3_readTerm_66 (by decide) ?_
              refine lv_iconst (v := 0) hx hb dX3_readTerm_70 (by decide) ?_
              have hPc := hP.sub (ws' := (wd_b958b9da h0 h1 h3 x130 h3 g1 fn134)) [0, 3] rfl
              have hDc := hD.sub (ws' := (wd_b958b9da h0 h1 h3 x130 h3 g1 fn134)) [0, 3] (by decide) rfl
              have hKc := hK.sub (tys' := [(g1, .int)]) [1] rfl
              have hFc := va_free (wc := (wd_b958b9da h0 h1 h3 x130 h3 g1 fn134)) hD hS hA [0, 3] rfl
              refine va_callv (va_runV (As := [.int 4, .int 0]) (rest := []) ⟨hx, hb, hml, hown, hts⟩ (k_X3_write l dC dI h0 h3 h1 x130 g1 fn134 4 0 ⟨by first | omega | decide, by first | omega | decide⟩ H.size) (cwV 2 hts g_X3_readTerm_3_4 rfl rfl rfl (by decide +kernel) ⟨Nat.le_of_ble_eq_true rfl, Nat.le_of_ble_eq_true rfl⟩) ⟨fun a U g mk q => by obtain ⟨q0, q1, qP, qK, qD⟩ := q; exact ⟨q0, q1, qP, va_K.moved (u := U) (U := U.calling g mk a) (Vm.Alike.refl U.vm) qK, qD⟩, va_recv hKc hPc (ci := 3) (q0 := 0) rfl rfl, fun U hU hW => ⟨rfl, by rw [hU], by rw [hU]; exact hPc, va_K.moved hW.alike hKc, hDc.weaken (fun _ _ _ _ => trivial)⟩⟩ rfl rfl hl.1 rfl (lv_room (Nat.le_of_ble_eq_true rfl)) dX3_readTerm_71 ⟨Nat.le_of_ble_eq_true rfl, Nat.le_of_ble_eq_true rfl⟩) hS (fun q _ h => hFc q h) hFc (fun u t H1 locs ht hvm hwra137 hB hz1 hk1 hS => ?_)
              obtain ⟨x138, fn139, oa_x138, ob_x138, hP1, hK1, hD1⟩ := hB
              rw [ht] at hP1
              obtain ⟨hP, hD⟩ := va_join (wr := (wd_82cdd16b h1 h2 v1 x131 x132 x133 h2 g0 f5)) (w1 := (wd_b958b9da h0 h1 h3 x138 h3 g1 fn139)) hP hD [0, 3] [1, 2] rfl rfl (by decide) (by decide) hk1 hFc hP1 hD1
              generalize H1 = H at hP hS ⊢
              have hP := hP.sub (ws' := (wd_1ad0248d h0 h1 h3 x138 h1 h2 v1 x131 x132 x133 h2 g0 f5 h3 g1 fn139)) [2, 0, 1, 3] rfl
              have hD := hD.sub (ws' := (wd_1ad0248d h0 h1 h3 x138 h1 h2 v1 x131 x132 x133 h2 g0 f5 h3 g1 fn139)) [2, 0, 1, 3] (by decide) rfl
              have hP : va_P (dC, dI) vwCl (wd_1ad0248d h0 h1 h3 x138 h1 h2 v1 x131 x132 x133 h2 g0 f5 h3 g1 fn139) H := hP
              have hD : va_D A (wd_1ad0248d h0 h1 h3 x138 h1 h2 v1 x131 x132 x133 h2 g0 f5 h3 g1 fn139) := hD
              obtain ⟨t140, et140⟩ : ∃ y : Int32, y = x110 + 1 := ⟨_, rfl⟩
              have gt140 : t140.toInt = x110.toInt + (1) := pv_add (a := x110.toInt) (b := (1)) et140 rfl (by decide) (by omega) (by omega)
              refine lv_iinc (v := t140) (lv' := [(2, .int t140), (3, .int ra124), (0, .ref h0), (1, .int 3)]) hx hb dX3_readTerm_74 hl (k := 1) rfl (by rw [et140]; rfl) (by decide) rfl (fun ls hl => ?_)
              refine lv_goto (tgt := 12) hx hb dX3_readTerm_77 (by decide) ?_
              exact ih_hL122 t140 x138 x131 x132 x133 fn139 H locs ls (by first | omega | decide) (by first | omega | decide) (by first | omega | decide) (by first | omega | decide) (by first | omega | (simp only [Int.toNat] at *; omega)) hP hD hS (lv_sub hl [0, 2, 3] rfl)
            · skip
              have fc135 : ra129.toInt = 0 := congrArg Int32.toInt c135
              refine lv_iconst (v := 0) hx hb dX3_readTerm_56 (by decide) ?_
              subst hQ
              have hP9 := hP.sub (ws' := (wd_1ad0248d h0 h1 h3 x130 h1 h2 v1 x131 x132 x133 h2 g0 f5 h3 g1 fn134)) [0, 1, 2, 3] rfl
              have hD9 := hD.sub (ws' := (wd_1ad0248d h0 h1 h3 x130 h1 h2 v1 x131 x132 x133 h2 g0 f5 h3 g1 fn134)) [0, 1, 2, 3] (by decide) rfl
              have hK9 := hK.sub (tys' := []) [] rfl
              exact W.zret (v := 0) hx hb hr rfl (fun t ht hW => ⟨⟨0, (), rfl, ⟨by first | omega | decide, by first | omega | decide⟩, x130, x131, x132, x133, fn134, by first | omega | decide, by first | omega | decide, by rw [ht]; exact hP9, va_K.moved hW.alike hK9, hD9⟩, hS.F ht⟩) hS.2.2 dX3_readTerm_57
          · skip
            have fc126 : ¬ (ra124.toInt = 42) := fun h9 => c126 (Int32.toInt_inj.mp h9)
            refine lv_iload_n hx hb dX3_readTerm_33 rfl (lv_at hl 0 rfl) ?_
            refine lv_bipush (v := 47) hx hb dX3_readTerm_34 (by decide) ?_
            refine lv_icmp_eq (tgt := 41) hx hb dX3_readTerm_36 (by decide) (fun c141 => ?_) (fun c141 => ?_)
            · skip
              have fc141 : ra124.toInt = 47 := congrArg Int32.toInt c141
              refine lv_aload_n hx hb dX3_readTerm_41 rfl (lv_at hl 2 rfl) ?_
              refine va_get (D := (dC, dI)) (ci := 3) (v := .ref h1) (C := RX3) (T := TX3) (N := 3) hx hb hts (fun _ h => List.mem_cons_of_mem _ (List.mem_append_left _ (List.mem_append_right _ h))) hown hK hP 0 rfl rfl 0 (by decide) (hts (.fieldLink RX3 19 "LeftArguments$LawReader" "tape" "LLeftArguments$Tape;") (List.mem_cons_of_mem _ (List.mem_append_left _ (List.mem_append_left _ (List.mem_of_getElem? (i := 1) rfl))))) (fun _ h9 => h9) rfl dX3_readTerm_42 ?_
              have hPc := hP.sub (ws' := (wd_09b0abee h1 h2 v1 x125 x113 x114)) [1] rfl
              have hDc := hD.sub (ws' := (wd_09b0abee h1 h2 v1 x125 x113 x114)) [1] (by decide) rfl
              have hKc := hK.sub (tys' := []) [] rfl
              have hFc := va_free (wc := (wd_09b0abee h1 h2 v1 x125 x113 x114)) hD hS hA [1] rfl
              refine va_callv (va_runV (As := []) (rest := []) ⟨hx, hb, hml, hown, hts⟩ (k_X10_step l dC dI h1 h2 v1 x125 x113 x114 ⟨by first | omega | decide, by first | omega | decide⟩ H.size) (cwV 0 hts g_X3_readTerm_3_2 rfl rfl rfl (by decide +kernel) ⟨Nat.le_of_ble_eq_true rfl, Nat.le_of_ble_eq_true rfl⟩) ⟨fun a U g mk q => by obtain ⟨q0, q1, qP, qK, qD⟩ := q; exact ⟨q0, q1, qP, va_K.moved (u := U) (U := U.calling g mk a) (Vm.Alike.refl U.vm) qK, qD⟩, va_recv hKc hPc (ci := 10) (q0 := 0) rfl rfl, fun U hU hW => ⟨rfl, by rw [hU], by rw [hU]; exact hPc, va_K.moved hW.alike hKc, hDc.weaken (fun _ _ _ _ => trivial)⟩⟩ rfl rfl hl.1 rfl (lv_room (Nat.le_of_ble_eq_true rfl)) dX3_readTerm_45 ⟨Nat.le_of_ble_eq_true rfl, Nat.le_of_ble_eq_true rfl⟩) hS (fun q _ h => hFc q h) hFc (fun u t H1 locs ht hvm hwra142 hB hz1 hk1 hS => ?_)
              obtain ⟨x143, hP1, hK1, hD1⟩ := hB
              rw [ht] at hP1
              obtain ⟨hP, hD⟩ := va_join (wr := (wd_6b0d8e05 h0 h1 h3 x111 h2 g0 f5 h3 g1 fn115)) (w1 := (wd_09b0abee h1 h2 v1 x143 x113 x114)) hP hD [1] [0, 2, 3] rfl rfl (by decide) (by decide) hk1 hFc hP1 hD1
              generalize H1 = H at hP hS ⊢
              have hP := hP.sub (ws' := (wd_1ad0248d h0 h1 h3 x111 h1 h2 v1 x143 x113 x114 h2 g0 f5 h3 g1 fn115)) [0, 3, 1, 2] rfl
              have hD := hD.sub (ws' := (wd_1ad0248d h0 h1 h3 x111 h1 h2 v1 x143 x113 x114 h2 g0 f5 h3 g1 fn115)) [0, 3, 1, 2] (by decide) rfl
              have hP : va_P (dC, dI) vwCl (wd_1ad0248d h0 h1 h3 x111 h1 h2 v1 x143 x113 x114 h2 g0 f5 h3 g1 fn115) H := hP
              have hD : va_D A (wd_1ad0248d h0 h1 h3 x111 h1 h2 v1 x143 x113 x114 h2 g0 f5 h3 g1 fn115) := hD
              refine lv_aload_n hx hb dX3_readTerm_48 rfl (lv_at hl 2 rfl) ?_
              refine lv_iload_n hx hb dX3_readTerm_49 rfl (lv_at hl 3 rfl) ?_
              have hPc := hP.sub (ws' := (wd_1ad0248d h0 h1 h3 x111 h1 h2 v1 x143 x113 x114 h2 g0 f5 h3 g1 fn115)) [0, 1, 2, 3] rfl
              have hDc := hD.sub (ws' := (wd_1ad0248d h0 h1 h3 x111 h1 h2 v1 x143 x113 x114 h2 g0 f5 h3 g1 fn115)) [0, 1, 2, 3] (by decide) rfl
              have hKc := hK.sub (tys' := [(g0, .int), (g1, .int)]) [0, 1] rfl
              have hFc := va_free (wc := (wd_1ad0248d h0 h1 h3 x111 h1 h2 v1 x143 x113 x114 h2 g0 f5 h3 g1 fn115)) hD hS hA [0, 1, 2, 3] rfl
              refine va_calli (va_runV (As := [.int 3]) (rest := []) ⟨hx, hb, hml, hown, hts⟩ (k_X3_readAtom_3 l dC dI adK adV h0 h1 h2 h3 x111 v1 x143 x113 x114 g0 f5 g1 fn115 ⟨by first | omega | decide, by first | omega | decide⟩ ⟨by first | omega | decide, by first | omega | decide⟩ H.size) (cwV 1 hts g_X3_readTerm_3_0 rfl rfl rfl (by decide +kernel) ⟨Nat.le_of_ble_eq_true rfl, Nat.le_of_ble_eq_true rfl⟩) ⟨fun a U g mk q => by obtain ⟨q0, q1, qP, qK, qD, n0, n1, n2⟩ := q; exact ⟨q0, q1, qP, va_K.moved (u := U) (U := U.calling g mk a) (Vm.Alike.refl U.vm) qK, qD, vk_R.same rfl n0, va_Z.moved (Vm.Alike.refl _) n1, vk_S.moved (Vm.Alike.refl _) n2⟩, va_recv hKc hPc (ci := 3) (q0 := 0) rfl rfl, fun U hU hW => ⟨rfl, by rw [hU], by rw [hU]; exact hPc, va_K.moved hW.alike hKc, hDc.weaken (fun _ _ _ _ => trivial), vk_R.warm hW h_vr_2, (by rw [hU]; exact (va_Z.moved hW.alike (va_Z.kept h_st_CS hS.2.1)).narrow hFc), (by rw [hU]; exact (vk_S.moved hW.alike (vk_S.kept h_st_S hS.2.1)).narrow hFc)⟩⟩ rfl rfl hl.1 rfl (lv_room (Nat.le_of_ble_eq_true rfl)) dX3_readTerm_50 ⟨Nat.le_of_ble_eq_true rfl, Nat.le_of_ble_eq_true rfl⟩) hS (fun q _ h => hFc q h) hFc (fun ra144 u t H1 locs ht hvm hwra144 hB hz1 hk1 hS => ?_)
              obtain ⟨x145, x146, x147, x148, fn149, oa_x145, ob_x145, hP1, hK1, hD1⟩ := hB
              rw [ht] at hP1
              obtain ⟨hP, hD⟩ := va_join (wr := []) (w1 := (wd_1ad0248d h0 h1 h3 x145 h1 h2 v1 x146 x147 x148 h2 g0 f5 h3 g1 fn149)) hP hD [0, 1, 2, 3] [] rfl rfl (by decide) (by decide) hk1 hFc hP1 hD1
              generalize H1 = H at hP hS ⊢
              have hP : va_P (dC, dI) vwCl (wd_1ad0248d h0 h1 h3 x145 h1 h2 v1 x146 x147 x148 h2 g0 f5 h3 g1 fn149) H := hP
              have hD : va_D A (wd_1ad0248d h0 h1 h3 x145 h1 h2 v1 x146 x147 x148 h2 g0 f5 h3 g1 fn149) := hD
              obtain ⟨wa_ra144, wb_ra144⟩ := hwra144
              have wa_ra144 : 0 ≤ ra144.toInt := wa_ra144
              have wb_ra144 : ra144.toInt ≤ 1 := wb_ra144
              refine lv_if_ne (tgt := 58) hx hb dX3_readTerm_53 (by decide) (fun c150 => ?_) (fun c150 => ?_)
              · skip
                have fc150 : ¬ (ra144.toInt = 0) := fun h9 => c150 (Int32.toInt_inj.mp h9)
                refine lv_aload_n hx hb dX3_readTerm_58 rfl (lv_at hl 2 rfl) ?_
                refine lv_iload_n hx hb dX3_readTerm_59 rfl (lv_at hl 0 rfl) ?_
                refine lv_bipush (v := 42) hx hb dX3_readTerm_60 (by decide) ?_
                refine lv_icmp_ne (tgt := 69) hx hb dX3_readTerm_62 (by decide) (fun _ => ?_) (fun c151 => by exfalso; have fc151 : ra124.toInt = 42 := congrArg Int32.toInt c151; omega)
                refine lv_iconst (v := 5) hx hb dX3_readTerm_69 (by decide) ?_
                refine lv_iconst (v := 0) hx hb dX3_readTerm_70 (by decide) ?_
                have hPc := hP.sub (ws' := (wd_b958b9da h0 h1 h3 x145 h3 g1 fn149)) [0, 3] rfl
                have hDc := hD.sub (ws' := (wd_b958b9da h0 h1 h3 x145 h3 g1 fn149)) [0, 3] (by decide) rfl
                have hKc := hK.sub (tys' := [(g1, .int)]) [1] rfl
                have hFc := va_free (wc := (wd_b958b9da h0 h1 h3 x145 h3 g1 fn149)) hD hS hA [0, 3] rfl
                refine va_callv (va_runV (As := [.int 5, .int 0]) (rest := []) ⟨hx, hb, hml, hown, hts⟩ (k_X3_write l dC dI h0 h3 h1 x145 g1 fn149 5 0 ⟨by first | omega | decide, by first | omega | decide⟩ H.size) (cwV 2 hts g_X3_readTerm_3_4 rfl rfl rfl (by decide +kernel) ⟨Nat.le_of_ble_eq_true rfl, Nat.le_of_ble_eq_true rfl⟩) ⟨fun a U g mk q => by obtain ⟨q0, q1, qP, qK, qD⟩ := q; exact ⟨q0, q1, qP, va_K.moved (u := U) (U := U.calling g mk a) (Vm.Alike.refl U.vm) qK, qD⟩, va_recv hKc hPc (ci := 3) (q0 := 0) rfl rfl, fun U hU hW => ⟨rfl, by rw [hU], by rw [hU]; exact hPc, va_K.moved hW.alike hKc, hDc.weaken (fun _ _ _ _ => trivial)⟩⟩ rfl rfl hl.1 rfl (lv_room (Nat.le_of_ble_eq_true rfl)) dX3_readTerm_71 ⟨Nat.le_of_ble_eq_true rfl, Nat.le_of_ble_eq_true rfl⟩) hS (fun q _ h => hFc q h) hFc (fun u t H1 locs ht hvm hwra152 hB hz1 hk1 hS => ?_)
                obtain ⟨x153, fn154, oa_x153, ob_x153, hP1, hK1, hD1⟩ := hB
                rw [ht] at hP1
                obtain ⟨hP, hD⟩ := va_join (wr := (wd_82cdd16b h1 h2 v1 x146 x147 x148 h2 g0 f5)) (w1 := (wd_b958b9da h0 h1 h3 x153 h3 g1 fn154)) hP hD [0, 3] [1, 2] rfl rfl (by decide) (by decide) hk1 hFc hP1 hD1
                generalize H1 = H at hP hS ⊢
                have hP := hP.sub (ws' := (wd_1ad0248d h0 h1 h3 x153 h1 h2 v1 x146 x147 x148 h2 g0 f5 h3 g1 fn154)) [2, 0, 1, 3] rfl
                have hD := hD.sub (ws' := (wd_1ad0248d h0 h1 h3 x153 h1 h2 v1 x146 x147 x148 h2 g0 f5 h3 g1 fn154)) [2, 0, 1, 3] (by decide) rfl
                have hP : va_P (dC, dI) vwCl (wd_1ad0248d h0 h1 h3 x153 h1 h2 v1 x146 x147 x148 h2 g0 f5 h3 g1 fn154) H := hP
                have hD : va_D A (wd_1ad0248d h0 h1 h3 x153 h1 h2 v1 x146 x147 x148 h2 g0 f5 h3 g1 fn154) := hD
                obtain ⟨t155, et155⟩ : ∃ y : Int32, y = x110 + 1 := ⟨_, rfl⟩
                have gt155 : t155.toInt = x110.toInt + (1) := pv_add (a := x110.toInt) (b := (1)) et155 rfl (by decide) (by omega) (by omega)
                refine lv_iinc (v := t155) (lv' := [(2, .int t155), (3, .int ra124), (0, .ref h0), (1, .int 3)]) hx hb dX3_readTerm_74 hl (k := 1) rfl (by rw [et155]; rfl) (by decide) rfl (fun ls hl => ?_)
                refine lv_goto (tgt := 12) hx hb dX3_readTerm_77 (by decide) ?_
                exact ih_hL122 t155 x153 x146 x147 x148 fn154 H locs ls (by first | omega | decide) (by first | omega | decide) (by first | omega | decide) (by first | omega | decide) (by first | omega | (simp only [Int.toNat] at *; omega)) hP hD hS (lv_sub hl [0, 2, 3] rfl)
              · skip
                have fc150 : ra144.toInt = 0 := congrArg Int32.toInt c150
                refine lv_iconst (v := 0) hx hb dX3_readTerm_56 (by decide) ?_
                subst hQ
                have hP9 := hP.sub (ws' := (wd_1ad0248d h0 h1 h3 x145 h1 h2 v1 x146 x147 x148 h2 g0 f5 h3 g1 fn149)) [0, 1, 2, 3] rfl
                have hD9 := hD.sub (ws' := (wd_1ad0248d h0 h1 h3 x145 h1 h2 v1 x146 x147 x148 h2 g0 f5 h3 g1 fn149)) [0, 1, 2, 3] (by decide) rfl
                have hK9 := hK.sub (tys' := []) [] rfl
                exact W.zret (v := 0) hx hb hr rfl (fun t ht hW => ⟨⟨0, (), rfl, ⟨by first | omega | decide, by first | omega | decide⟩, x145, x146, x147, x148, fn149, by first | omega | decide, by first | omega | decide, by rw [ht]; exact hP9, va_K.moved hW.alike hK9, hD9⟩, hS.F ht⟩) hS.2.2 dX3_readTerm_57
            · skip
              have fc141 : ¬ (ra124.toInt = 47) := fun h9 => c141 (Int32.toInt_inj.mp h9)
              refine lv_iconst (v := 1) hx hb dX3_readTerm_39 (by decide) ?_
              subst hQ
              have hP9 := hP.sub (ws' := (wd_1ad0248d h0 h1 h3 x111 h1 h2 v1 x125 x113 x114 h2 g0 f5 h3 g1 fn115)) [0, 1, 2, 3] rfl
              have hD9 := hD.sub (ws' := (wd_1ad0248d h0 h1 h3 x111 h1 h2 v1 x125 x113 x114 h2 g0 f5 h3 g1 fn115)) [0, 1, 2, 3] (by decide) rfl
              have hK9 := hK.sub (tys' := []) [] rfl
              exact W.zret (v := 1) hx hb hr rfl (fun t ht hW => ⟨⟨1, (), rfl, ⟨by first | omega | decide, by first | omega | decide⟩, x111, x125, x113, x114, fn115, by first | omega | decide, by first | omega | decide, by rw [ht]; exact hP9, va_K.moved hW.alike hK9, hD9⟩, hS.F ht⟩) hS.2.2 dX3_readTerm_40
    exact hL122 _ 0 x2 x3 x4 x5 fn6 H locs ls (by first | omega | decide) (by first | omega | decide) (by first | omega | decide) (by first | omega | decide) (Nat.lt_succ_self _) hP hD hS (lv_sub hl [0, 1, 2] rfl)
  · skip
    have fc7 : ra1.toInt = 0 := congrArg Int32.toInt c7
    refine lv_iconst (v := 0) hx hb dX3_readTerm_8 (by decide) ?_
    subst hQ
    have hP9 := hP.sub (ws' := (wd_1ad0248d h0 h1 h3 x2 h1 h2 v1 x3 x4 x5 h2 g0 f5 h3 g1 fn6)) [0, 1, 2, 3] rfl
    have hD9 := hD.sub (ws' := (wd_1ad0248d h0 h1 h3 x2 h1 h2 v1 x3 x4 x5 h2 g0 f5 h3 g1 fn6)) [0, 1, 2, 3] (by decide) rfl
    have hK9 := hK.sub (tys' := []) [] rfl
    exact W.zret (v := 0) hx hb hr rfl (fun t ht hW => ⟨⟨0, (), rfl, ⟨by first | omega | decide, by first | omega | decide⟩, x2, x3, x4, x5, fn6, by first | omega | decide, by first | omega | decide, by rw [ht]; exact hP9, va_K.moved hW.alike hK9, hD9⟩, hS.F ht⟩) hS.2.2 dX3_readTerm_9
def q_X3_readSum_3 : List Cond := .code yX3_readSum cX3_readSum 4 (some .boolean) :: (([.code yX3_readTerm cX3_readTerm 4 (some .boolean), .code yX3_readAtom cX3_readAtom 4 (some .boolean), .fieldLink RX3 19 "LeftArguments$LawReader" "tape" "LLeftArguments$Tape;", .code yX10_next cX10_next 1 (some .int), .fieldLink RX10 19 "LeftArguments$Tape" "at" "I", .fieldLink RX10 15 "LeftArguments$Tape" "used" "I", .fieldLink RX10 9 "LeftArguments$Tape" "bytes" "[I", .initialized RX10, .instanceMethod yX10_next, .selects RX10 yX10_next yX10_next, .methodLink RX3 48 yX10_next, .code yX10_isDigit cX10_isDigit 1 (some .boolean), .static yX10_isDigit, .methodLink RX3 92 yX10_isDigit, .code yX10_step cX10_step 1 none, .instanceMethod yX10_step, .selects RX10 yX10_step yX10_step, .methodLink RX3 77 yX10_step, .code yX3_write cX3_write 3 none, .fieldLink RX3 15 "LeftArguments$LawReader" "used" "I", .fieldLink RX3 11 "LeftArguments$LawReader" "code" "[I", .initialized RX3, .instanceMethod yX3_write, .selects RX3 yX3_write yX3_write, .methodLink RX3 66 yX3_write, .code yX10_wrongHere cX10_wrongHere 1 (some .boolean), .fieldLink RX10 22 "LeftArguments$Tape" "wrongAt" "I", .instanceMethod yX10_wrongHere, .selects RX10 yX10_wrongHere yX10_wrongHere, .methodLink RX3 83 yX10_wrongHere, .code yJ0_indexOf_0f7a4 cJ0_indexOf_0f7a4 2 (some .int), .code yJ0_indexOf_7cf53 cJ0_indexOf_7cf53 3 (some .int), .code yJ0_isLatin1_aae02 cJ0_isLatin1_aae02 1 (some .boolean), .fieldLink RJ0 38 "java/lang/String" "COMPACT_STRINGS" "Z", .fieldLink RJ0 15 "java/lang/String" "coder" "B", .initialized RJ0, .instanceMethod yJ0_isLatin1_aae02, .selects RJ0 yJ0_isLatin1_aae02 yJ0_isLatin1_aae02, .methodLink RJ0 492 yJ0_isLatin1_aae02, .fieldLink RJ0 9 "java/lang/String" "value" "[B", .code yJ0_length_8abf5 cJ0_length_8abf5 1 (some .int), .code yJ0_coder_7d493 cJ0_coder_7d493 1 (some .byte), .instanceMethod yJ0_coder_7d493, .selects RJ0 yJ0_coder_7d493 yJ0_coder_7d493, .methodLink RJ0 335 yJ0_coder_7d493, .instanceMethod yJ0_length_8abf5, .selects RJ0 yJ0_length_8abf5 yJ0_length_8abf5, .methodLink RJ0 505 yJ0_length_8abf5, .code yJ1_indexOf_4cfef cJ1_indexOf_4cfef 4 (some .int), .code yJ1_canEncode_9a6ad cJ1_canEncode_9a6ad 1 (some .boolean), .initialized RJ1, .static yJ1_canEncode_9a6ad, .methodLink RJ1 88 yJ1_canEncode_9a6ad, .methodLink RJ1 92 Lib.Math.max.name, .static Lib.Math.max.name, .initialized "java/lang/Math", .code Lib.Math.max.name Lib.Math.max.code 2 (some .int), .methodLink RJ1 38 Lib.Math.min.name, .static Lib.Math.min.name, .code Lib.Math.min.name Lib.Math.min.code 2 (some .int), .code yJ1_indexOfChar_4cfef cJ1_indexOfChar_4cfef 6 (some .int), .static yJ1_indexOfChar_4cfef, .methodLink RJ1 95 yJ1_indexOfChar_4cfef, .static yJ1_indexOf_4cfef, .methodLink RJ0 637 yJ1_indexOf_4cfef, .instanceMethod yJ0_indexOf_7cf53, .selects RJ0 yJ0_indexOf_7cf53 yJ0_indexOf_7cf53, .methodLink RJ0 633 yJ0_indexOf_7cf53, .instanceMethod yJ0_indexOf_0f7a4, .selects RJ0 yJ0_indexOf_0f7a4 yJ0_indexOf_0f7a4, .methodLink RX3 103 yJ0_indexOf_0f7a4, .code yX10_takeNumber cX10_takeNumber 3 (some .boolean), .methodLink RX10 37 yX10_next, .methodLink RX10 45 yX10_isDigit, .fieldLink RX10 25 "LeftArguments$Tape" "number" "I", .code yX10_sign cX10_sign 1 (some .int), .instanceMethod yX10_sign, .selects RX10 yX10_sign yX10_sign, .methodLink RX10 49 yX10_sign, .methodLink RX10 41 yX10_wrongHere, .instanceMethod yX10_takeNumber, .selects RX10 yX10_takeNumber yX10_takeNumber, .methodLink RX3 95 yX10_takeNumber, .code yX10_number cX10_number 1 (some .int), .instanceMethod yX10_number, .selects RX10 yX10_number yX10_number, .methodLink RX3 98 yX10_number, .code yX3_readSum cX3_readSum 4 (some .boolean), .instanceMethod yX3_readAtom, .selects RX3 yX3_readAtom yX3_readAtom, .methodLink RX3 89 yX3_readAtom, .instanceMethod yX3_readTerm, .selects RX3 yX3_readTerm yX3_readTerm, .methodLink RX3 86 yX3_readTerm, .instanceMethod yX3_readSum, .selects RX3 yX3_readSum yX3_readSum, .methodLink RX3 59 yX3_readSum, .code yX10_take cX10_take 2 (some .boolean), .instanceMethod yX10_take, .selects RX10 yX10_take yX10_take, .methodLink RX3 51 yX10_take] : List Cond) ++ wsX30 ++ wsX100)
set_option maxRecDepth 20000 in
theorem g_X3_readSum_3_0 : GoodIn q_X3_readSum_3 (wsV RX3 86 RX3 yX3_readTerm q_X3_readTerm_3) := goodIn_app (goodIn_r _ [94, 92, 93, 22] rfl (by decide +kernel)) (goodIn_ca (goodIn_ca (goodIn_r (.code yX3_readTerm cX3_readTerm 4 (some .boolean) :: [.code yX3_readAtom cX3_readAtom 4 (some .boolean), .fieldLink RX3 19 "LeftArguments$LawReader" "tape" "LLeftArguments$Tape;", .code yX10_next cX10_next 1 (some .int), .fieldLink RX10 19 "LeftArguments$Tape" "at" "I", .fieldLink RX10 15 "LeftArguments$Tape" "used" "I", .fieldLink RX10 9 "LeftArguments$Tape" "bytes" "[I", .initialized RX10, .instanceMethod yX10_next, .selects RX10 yX10_next yX10_next, .methodLink RX3 48 yX10_next, .code yX10_isDigit cX10_isDigit 1 (some .boolean), .static yX10_isDigit, .methodLink RX3 92 yX10_isDigit, .code yX10_step cX10_step 1 none, .instanceMethod yX10_step, .selects RX10 yX10_step yX10_step, .methodLink RX3 77 yX10_step, .code yX3_write cX3_write 3 none, .fieldLink RX3 15 "LeftArguments$LawReader" "used" "I", .fieldLink RX3 11 "LeftArguments$LawReader" "code" "[I", .initialized RX3, .instanceMethod yX3_write, .selects RX3 yX3_write yX3_write, .methodLink RX3 66 yX3_write, .code yX10_wrongHere cX10_wrongHere 1 (some .boolean), .fieldLink RX10 22 "LeftArguments$Tape" "wrongAt" "I", .instanceMethod yX10_wrongHere, .selects RX10 yX10_wrongHere yX10_wrongHere, .methodLink RX3 83 yX10_wrongHere, .code yJ0_indexOf_0f7a4 cJ0_indexOf_0f7a4 2 (some .int), .code yJ0_indexOf_7cf53 cJ0_indexOf_7cf53 3 (some .int), .code yJ0_isLatin1_aae02 cJ0_isLatin1_aae02 1 (some .boolean), .fieldLink RJ0 38 "java/lang/String" "COMPACT_STRINGS" "Z", .fieldLink RJ0 15 "java/lang/String" "coder" "B", .initialized RJ0, .instanceMethod yJ0_isLatin1_aae02, .selects RJ0 yJ0_isLatin1_aae02 yJ0_isLatin1_aae02, .methodLink RJ0 492 yJ0_isLatin1_aae02, .fieldLink RJ0 9 "java/lang/String" "value" "[B", .code yJ0_length_8abf5 cJ0_length_8abf5 1 (some .int), .code yJ0_coder_7d493 cJ0_coder_7d493 1 (some .byte), .instanceMethod yJ0_coder_7d493, .selects RJ0 yJ0_coder_7d493 yJ0_coder_7d493, .methodLink RJ0 335 yJ0_coder_7d493, .instanceMethod yJ0_length_8abf5, .selects RJ0 yJ0_length_8abf5 yJ0_length_8abf5, .methodLink RJ0 505 yJ0_length_8abf5, .code yJ1_indexOf_4cfef cJ1_indexOf_4cfef 4 (some .int), .code yJ1_canEncode_9a6ad cJ1_canEncode_9a6ad 1 (some .boolean), .initialized RJ1, .static yJ1_canEncode_9a6ad, .methodLink RJ1 88 yJ1_canEncode_9a6ad, .methodLink RJ1 92 Lib.Math.max.name, .static Lib.Math.max.name, .initialized "java/lang/Math", .code Lib.Math.max.name Lib.Math.max.code 2 (some .int), .methodLink RJ1 38 Lib.Math.min.name, .static Lib.Math.min.name, .code Lib.Math.min.name Lib.Math.min.code 2 (some .int), .code yJ1_indexOfChar_4cfef cJ1_indexOfChar_4cfef 6 (some .int), .static yJ1_indexOfChar_4cfef, .methodLink RJ1 95 yJ1_indexOfChar_4cfef, .static yJ1_indexOf_4cfef, .methodLink RJ0 637 yJ1_indexOf_4cfef, .instanceMethod yJ0_indexOf_7cf53, .selects RJ0 yJ0_indexOf_7cf53 yJ0_indexOf_7cf53, .methodLink RJ0 633 yJ0_indexOf_7cf53, .instanceMethod yJ0_indexOf_0f7a4, .selects RJ0 yJ0_indexOf_0f7a4 yJ0_indexOf_0f7a4, .methodLink RX3 103 yJ0_indexOf_0f7a4, .code yX10_takeNumber cX10_takeNumber 3 (some .boolean), .methodLink RX10 37 yX10_next, .methodLink RX10 45 yX10_isDigit, .fieldLink RX10 25 "LeftArguments$Tape" "number" "I", .code yX10_sign cX10_sign 1 (some .int), .instanceMethod yX10_sign, .selects RX10 yX10_sign yX10_sign, .methodLink RX10 49 yX10_sign, .methodLink RX10 41 yX10_wrongHere, .instanceMethod yX10_takeNumber, .selects RX10 yX10_takeNumber yX10_takeNumber, .methodLink RX3 95 yX10_takeNumber, .code yX10_number cX10_number 1 (some .int), .instanceMethod yX10_number, .selects RX10 yX10_number yX10_number, .methodLink RX3 98 yX10_number, .code yX3_readSum cX3_readSum 4 (some .boolean), .code yX3_readTerm cX3_readTerm 4 (some .boolean), .instanceMethod yX3_readAtom, .selects RX3 yX3_readAtom yX3_readAtom, .methodLink RX3 89 yX3_readAtom, .instanceMethod yX3_readTerm, .selects RX3 yX3_readTerm yX3_readTerm, .methodLink RX3 86 yX3_readTerm, .instanceMethod yX3_readSum, .selects RX3 yX3_readSum yX3_readSum, .methodLink RX3 59 yX3_readSum, .code yX10_take cX10_take 2 (some .boolean), .instanceMethod yX10_take, .selects RX10 yX10_take yX10_take, .methodLink RX3 51 yX10_take]) [1, 2, 3, 4, 5, 6, 7, 8, 9, 10, 11, 12, 13, 14, 15, 16, 17, 18, 19, 20, 21, 22, 23, 24, 25, 26, 27, 28, 29, 30, 31, 32, 33, 34, 35, 36, 37, 38, 39, 40, 41, 42, 43, 44, 45, 46, 47, 48, 49, 50, 51, 52, 53, 54, 55, 56, 57, 58, 59, 60, 61, 62, 63, 64, 65, 66, 67, 68, 69, 70, 71, 72, 73, 74, 75, 76, 77, 78, 79, 80, 81, 82, 83, 84, 85, 86, 87, 88, 1, 89, 90, 91, 92, 93, 94, 95, 96, 97, 98, 99, 100, 101] rfl (by decide +kernel)) (goodIn_sub (fun _ h => List.mem_cons_of_mem _ (List.mem_append_left _ (List.mem_append_right _ h))) gwX3)) (goodIn_sub (fun _ h => List.mem_cons_of_mem _ (List.mem_append_right _ h)) gwX10))
set_option maxRecDepth 20000 in
theorem g_X3_readSum_3_1 : GoodIn q_X3_readSum_3 (wsV RX3 48 RX10 yX10_next q_X10_next) := goodIn_app (goodIn_r _ [11, 9, 10, 8] rfl (by decide +kernel)) (goodIn_ca (goodIn_r (.code yX10_next cX10_next 1 (some .int) :: [.fieldLink RX10 19 "LeftArguments$Tape" "at" "I", .fieldLink RX10 15 "LeftArguments$Tape" "used" "I", .fieldLink RX10 9 "LeftArguments$Tape" "bytes" "[I"]) [4, 5, 6, 7] rfl (by decide +kernel)) (goodIn_sub (fun _ h => List.mem_cons_of_mem _ (List.mem_append_right _ h)) gwX10))
set_option maxRecDepth 20000 in
theorem g_X3_readSum_3_2 : GoodIn q_X3_readSum_3 (wsV RX3 77 RX10 yX10_step q_X10_step) := goodIn_app (goodIn_r _ [18, 16, 17, 8] rfl (by decide +kernel)) (goodIn_ca (goodIn_r (.code yX10_step cX10_step 1 none :: [.fieldLink RX10 19 "LeftArguments$Tape" "at" "I"]) [15, 5] rfl (by decide +kernel)) (goodIn_sub (fun _ h => List.mem_cons_of_mem _ (List.mem_append_right _ h)) gwX10))
set_option maxRecDepth 20000 in
theorem g_X3_readSum_3_4 : GoodIn q_X3_readSum_3 (wsV RX3 66 RX3 yX3_write q_X3_write) := goodIn_app (goodIn_r _ [25, 23, 24, 22] rfl (by decide +kernel)) (goodIn_ca (goodIn_r (.code yX3_write cX3_write 3 none :: [.fieldLink RX3 15 "LeftArguments$LawReader" "used" "I", .fieldLink RX3 11 "LeftArguments$LawReader" "code" "[I"]) [19, 20, 21] rfl (by decide +kernel)) (goodIn_sub (fun _ h => List.mem_cons_of_mem _ (List.mem_append_left _ (List.mem_append_right _ h))) gwX3))
set_option maxHeartbeats 4000000 in
set_option maxRecDepth 100000 in
theorem k_X3_readSum_3 (l : Launch) (dC : Nat → ClassId) (dI : Nat → Nat → Nat) (adK : Nat → Nat) (adV : Nat → Nat) (h0 : Nat) (h1 : Nat) (h2 : Nat) (h3 : Nat) (v0 : Int32) (v1 : Int32) (v2 : Int32) (v3 : Int32) (v4 : Int32) (g0 : ClassId) (f5 : Nat → Int32) (g1 : ClassId) (f6 : Nat → Int32) (i_v0 : 0 ≤ v0.toInt ∧ v0.toInt ≤ 256) (i_v1 : 0 ≤ v1.toInt ∧ v1.toInt ≤ 240) (sz : Nat) : Met l yX3_readSum q_X3_readSum_3 ({ frames := 15, cells := 0, slots := 0, locals := 344 }) (va_Pc [.ref h0, .int 3] (fun U => U.heap.size = sz ∧ va_P (dC, dI) vwCl (wd_1ad0248d h0 h1 h3 v0 h1 h2 v1 v2 v3 v4 h2 g0 f5 h3 g1 f6) U.heap ∧ va_K (dC, dI) vwCl [(g0, .int), (g1, .int)] U ∧ va_D (fun _ => True) (wd_1ad0248d h0 h1 h3 v0 h1 h2 v1 v2 v3 v4 h2 g0 f5 h3 g1 f6) ∧ vk_R RX3 101 "zaondt" (adK 2) U ∧ va_Z "java/lang/String" "COMPACT_STRINGS" "Z" (.int 1) (va_A (wd_1ad0248d h0 h1 h3 v0 h1 h2 v1 v2 v3 v4 h2 g0 f5 h3 g1 f6) sz) U U.heap ∧ vk_S 3 pv_len3 pv_byt3 adK adV (va_A (wd_1ad0248d h0 h1 h3 v0 h1 h2 v1 v2 v3 v4 h2 g0 f5 h3 g1 f6) sz) U U.heap)) (va_Qi (fun (r : Int32) (_ : Unit) => 0 ≤ r.toInt ∧ r.toInt ≤ 1) (fun (_ : Unit) (t : State) => ∃ (o_h0_2 : Int32) (o_h1_2 : Int32) (o_h1_3 : Int32) (o_h1_4 : Int32) (o_h3 : Nat → Int32), 0 ≤ o_h0_2.toInt ∧ o_h0_2.toInt ≤ 256 ∧ va_P (dC, dI) vwCl (wd_1ad0248d h0 h1 h3 o_h0_2 h1 h2 v1 o_h1_2 o_h1_3 o_h1_4 h2 g0 f5 h3 g1 o_h3) t.heap ∧ va_K (dC, dI) vwCl [] t ∧ va_D (va_A (wd_1ad0248d h0 h1 h3 v0 h1 h2 v1 v2 v3 v4 h2 g0 f5 h3 g1 f6) sz) (wd_1ad0248d h0 h1 h3 o_h0_2 h1 h2 v1 o_h1_2 o_h1_3 o_h1_4 h2 g0 f5 h3 g1 o_h3)) (va_A (wd_1ad0248d h0 h1 h3 v0 h1 h2 v1 v2 v3 v4 h2 g0 f5 h3 g1 f6) sz)) 0 0 (va_A (wd_1ad0248d h0 h1 h3 v0 h1 h2 v1 v2 v3 v4 h2 g0 f5 h3 g1 f6) sz) := by
  refine Met.ofW (cc := cX3_readSum) (maxL := 4) (ret := (some .boolean)) (by decide) rfl ?_
  intro p e s m args below meth c s₁ B hml hv
  obtain ⟨i_v0a, i_v0b⟩ := i_v0
  obtain ⟨i_v1a, i_v1b⟩ := i_v1
  obtain ⟨rfl, hsz, hP, hK, hD0, h_vr_2, h_st_CS, h_st_S⟩ := hv
  have hx := B.exec
  have hb := B.bytes
  have hr := B.returns
  have hts := atoms_spec (ws := q_X3_readSum_3) B.pre
  have hown : s.vm.findClass RX3 = some m.cls := findClass_of_methodNamed B.named
  have hlocks := B.notSynchronized
  subst hsz
  have hD := hD0.self (sz := s.heap.size)
  generalize hAe : va_A (wd_1ad0248d h0 h1 h3 v0 h1 h2 v1 v2 v3 v4 h2 g0 f5 h3 g1 f6) s.heap.size = A at hD h_st_CS h_st_S ⊢
  have hA : ∀ q : Nat, s.heap.size ≤ q → A q := fun q h => by rw [← hAe]; exact Or.inr h
  have hS : va_S A s.heap s.heap [] := va_S.rf
  generalize hQ : (MQ below _ _ s 0 0 A) = Q
  have hl := lv_entry ([.ref h0, .int 3]) (n := 4) (Nat.le_of_ble_eq_true rfl)
  rw [lg_entry_eq]
  generalize (lg_sl ([.ref h0, .int 3]) ++ List.replicate (4 - (lg_sl ([.ref h0, .int 3])).length) Slot.unset).toArray = ls at hl ⊢
  have hl : lv_has ls 4 [(0, .ref h0), (1, .int 3)] := hl
  obtain ⟨H, hH⟩ : ∃ H : Heap, H = s.heap := ⟨_, rfl⟩
  obtain ⟨locs, hlocs⟩ : ∃ y : List Loc, y = [] := ⟨_, rfl⟩
  have hS : va_S A s.heap H locs := by rw [hH, hlocs]; exact va_S.rf
  have hP : va_P (dC, dI) vwCl (wd_1ad0248d h0 h1 h3 v0 h1 h2 v1 v2 v3 v4 h2 g0 f5 h3 g1 f6) H := by rw [hH]; exact hP
  rw [← hH, ← hlocs]
  refine lv_aload_n hx hb dX3_readSum_0 rfl (lv_at hl 0 rfl) ?_
  refine lv_iload_n hx hb dX3_readSum_1 rfl (lv_at hl 1 rfl) ?_
  have hPc := hP.sub (ws' := (wd_1ad0248d h0 h1 h3 v0 h1 h2 v1 v2 v3 v4 h2 g0 f5 h3 g1 f6)) [0, 1, 2, 3] rfl
  have hDc := hD.sub (ws' := (wd_1ad0248d h0 h1 h3 v0 h1 h2 v1 v2 v3 v4 h2 g0 f5 h3 g1 f6)) [0, 1, 2, 3] (by decide) rfl
  have hKc := hK.sub (tys' := [(g0, .int), (g1, .int)]) [0, 1] rfl
  have hFc := va_free (wc := (wd_1ad0248d h0 h1 h3 v0 h1 h2 v1 v2 v3 v4 h2 g0 f5 h3 g1 f6)) hD hS hA [0, 1, 2, 3] rfl
  refine va_calli (va_runV (As := [.int 3]) (rest := []) ⟨hx, hb, hml, hown, hts⟩ (k_X3_readTerm_3 l dC dI adK adV h0 h1 h2 h3 v0 v1 v2 v3 v4 g0 f5 g1 f6 ⟨by first | omega | decide, by first | omega | decide⟩ ⟨by first | omega | decide, by first | omega | decide⟩ H.size) (cwV 1 hts g_X3_readSum_3_0 rfl rfl rfl (by decide +kernel) ⟨Nat.le_of_ble_eq_true rfl, Nat.le_of_ble_eq_true rfl⟩) ⟨fun a U g mk q => by obtain ⟨q0, q1, qP, qK, qD, n0, n1, n2⟩ := q; exact ⟨q0, q1, qP, va_K.moved (u := U) (U := U.calling g mk a) (Vm.Alike.refl U.vm) qK, qD, vk_R.same rfl n0, va_Z.moved (Vm.Alike.refl _) n1, vk_S.moved (Vm.Alike.refl _) n2⟩, va_recv hKc hPc (ci := 3) (q0 := 0) rfl rfl, fun U hU hW => ⟨rfl, by rw [hU], by rw [hU]; exact hPc, va_K.moved hW.alike hKc, hDc.weaken (fun _ _ _ _ => trivial), vk_R.warm hW h_vr_2, (by rw [hU]; exact (va_Z.moved hW.alike (va_Z.kept h_st_CS hS.2.1)).narrow hFc), (by rw [hU]; exact (vk_S.moved hW.alike (vk_S.kept h_st_S hS.2.1)).narrow hFc)⟩⟩ rfl rfl hl.1 rfl (lv_room (Nat.le_of_ble_eq_true rfl)) dX3_readSum_2 ⟨Nat.le_of_ble_eq_true rfl, Nat.le_of_ble_eq_true rfl⟩) hS (fun q _ h => hFc q h) hFc (fun ra1 u t H1 locs ht hvm hwra1 hB hz1 hk1 hS => ?_)
  obtain ⟨x2, x3, x4, x5, fn6, oa_x2, ob_x2, hP1, hK1, hD1⟩ := hB
  rw [ht] at hP1
  obtain ⟨hP, hD⟩ := va_join (wr := []) (w1 := (wd_1ad0248d h0 h1 h3 x2 h1 h2 v1 x3 x4 x5 h2 g0 f5 h3 g1 fn6)) hP hD [0, 1, 2, 3] [] rfl rfl (by decide) (by decide) hk1 hFc hP1 hD1
  generalize H1 = H at hP hS ⊢
  have hP : va_P (dC, dI) vwCl (wd_1ad0248d h0 h1 h3 x2 h1 h2 v1 x3 x4 x5 h2 g0 f5 h3 g1 fn6) H := hP
  have hD : va_D A (wd_1ad0248d h0 h1 h3 x2 h1 h2 v1 x3 x4 x5 h2 g0 f5 h3 g1 fn6) := hD
  obtain ⟨wa_ra1, wb_ra1⟩ := hwra1
  have wa_ra1 : 0 ≤ ra1.toInt := wa_ra1
  have wb_ra1 : ra1.toInt ≤ 1 := wb_ra1
  refine lv_if_ne (tgt := 10) hx hb dX3_readSum_5 (by decide) (fun c7 => ?_) (fun c7 => ?_)
  · skip
    have fc7 : ¬ (ra1.toInt = 0) := fun h9 => c7 (Int32.toInt_inj.mp h9)
    refine lv_iconst (v := 0) hx hb dX3_readSum_10 (by decide) ?_
    refine lv_istore_n (lv' := [(2, .int 0), (0, .ref h0), (1, .int 3)]) hx hb dX3_readSum_11 rfl hl (by decide) rfl (fun ls hl => ?_)
    have hL104 : ∀ (n9 : Nat), ∀ (x92 : Int32) (x93 : Int32) (x94 : Int32) (x95 : Int32) (x96 : Int32) (fn97 : Nat → Int32) (H : Heap) (locs : List Loc) (ls : Array Slot), 0 ≤ x92.toInt → x92.toInt ≤ 240 → 0 ≤ x93.toInt → x93.toInt ≤ 256 → (240 - x92.toInt).toNat < n9 → va_P (dC, dI) vwCl (wd_1ad0248d h0 h1 h3 x93 h1 h2 v1 x94 x95 x96 h2 g0 f5 h3 g1 fn97) H → va_D A (wd_1ad0248d h0 h1 h3 x93 h1 h2 v1 x94 x95 x96 h2 g0 f5 h3 g1 fn97) → va_S A s.heap H locs → lv_has ls 4 [(2, .int x92), (0, .ref h0), (1, .int 3)] → W p l e ({ frames := 15, cells := 0, slots := 0, locals := 344 }) s m ([.ref h0, .int 3] : List Value).toArray below meth c H locs 0 0 Q (F0 m 12 ls []) := by
      intro n9
      induction n9 with
      | zero => intro x92 x93 x94 x95 x96 fn97 H locs ls qa_x92 qb_x92 qa_x93 qb_x93 hm9 hP hD hS hl; exact absurd hm9 (Nat.not_lt_zero _)
      | succ n9 ih_hL104 =>
        intro x92 x93 x94 x95 x96 fn97 H locs ls qa_x92 qb_x92 qa_x93 qb_x93 hm9 hP hD hS hl
        refine lv_iload_n hx hb dX3_readSum_12 rfl (lv_at hl 0 rfl) ?_
        refine lv_sipush (v := 240) hx hb dX3_readSum_13 (by decide) ?_
        refine lv_icmp_ge (tgt := 80) hx hb dX3_readSum_16 (by decide) (fun c105 => ?_) (fun c105 => ?_)
        · skip
          have fc105 : 240 ≤ x92.toInt := Int32.le_iff_toInt_le.mp c105
          refine lv_iconst (v := 1) hx hb dX3_readSum_80 (by decide) ?_
          subst hQ
          have hP9 := hP.sub (ws' := (wd_1ad0248d h0 h1 h3 x93 h1 h2 v1 x94 x95 x96 h2 g0 f5 h3 g1 fn97)) [0, 1, 2, 3] rfl
          have hD9 := hD.sub (ws' := (wd_1ad0248d h0 h1 h3 x93 h1 h2 v1 x94 x95 x96 h2 g0 f5 h3 g1 fn97)) [0, 1, 2, 3] (by decide) rfl
          have hK9 := hK.sub (tys' := []) [] rfl
          exact W.zret (v := 1) hx hb hr rfl (fun t ht hW => ⟨⟨1, (), rfl, ⟨by first | omega | decide, by first | omega | decide⟩, x93, x94, x95, x96, fn97, by first | omega | decide, by first | omega | decide, by rw [ht]; exact hP9, va_K.moved hW.alike hK9, hD9⟩, hS.F ht⟩) hS.2.2 dX3_readSum_81
        · skip
          have fc105 : ¬ (240 ≤ x92.toInt) := fun h9 => c105 (Int32.le_iff_toInt_le.mpr h9)
          refine lv_aload_n hx hb dX3_readSum_19 rfl (lv_at hl 1 rfl) ?_
          refine va_get (D := (dC, dI)) (ci := 3) (v := .ref h1) (C := RX3) (T := TX3) (N := 3) hx hb hts (fun _ h => List.mem_cons_of_mem _ (List.mem_append_left _ (List.mem_append_right _ h))) hown hK hP 0 rfl rfl 0 (by decide) (hts (.fieldLink RX3 19 "LeftArguments$LawReader" "tape" "LLeftArguments$Tape;") (List.mem_cons_of_mem _ (List.mem_append_left _ (List.mem_append_left _ (List.mem_of_getElem? (i := 2) rfl))))) (fun _ h9 => h9) rfl dX3_readSum_20 ?_
          have hPc := hP.sub (ws' := (wd_82cdd16b h1 h2 v1 x94 x95 x96 h2 g0 f5)) [1, 2] rfl
          have hDc := hD.sub (ws' := (wd_82cdd16b h1 h2 v1 x94 x95 x96 h2 g0 f5)) [1, 2] (by decide) rfl
          have hKc := hK.sub (tys' := [(g0, .int)]) [0] rfl
          have hFc := va_free (wc := (wd_82cdd16b h1 h2 v1 x94 x95 x96 h2 g0 f5)) hD hS hA [1, 2] rfl
          refine va_calli (va_runV (As := []) (rest := []) ⟨hx, hb, hml, hown, hts⟩ (k_X10_next l dC dI h1 h2 v1 x94 x95 x96 g0 f5 ⟨by first | omega | decide, by first | omega | decide⟩ H.size) (cwV 0 hts g_X3_readSum_3_1 rfl rfl rfl (by decide +kernel) ⟨Nat.le_of_ble_eq_true rfl, Nat.le_of_ble_eq_true rfl⟩) ⟨fun a U g mk q => by obtain ⟨q0, q1, qP, qK, qD⟩ := q; exact ⟨q0, q1, qP, va_K.moved (u := U) (U := U.calling g mk a) (Vm.Alike.refl U.vm) qK, qD⟩, va_recv hKc hPc (ci := 10) (q0 := 0) rfl rfl, fun U hU hW => ⟨rfl, by rw [hU], by rw [hU]; exact hPc, va_K.moved hW.alike hKc, hDc.weaken (fun _ _ _ _ => trivial)⟩⟩ rfl rfl hl.1 rfl (lv_room (Nat.le_of_ble_eq_true rfl)) dX3_readSum_23 ⟨Nat.le_of_ble_eq_true rfl, Nat.le_of_ble_eq_true rfl⟩) hS (fun q _ h => hFc q h) hFc (fun ra106 u t H1 locs ht hvm hwra106 hB hz1 hk1 hS => ?_)
          obtain ⟨x107, hP1, hK1, hD1⟩ := hB
          rw [ht] at hP1
          obtain ⟨hP, hD⟩ := va_join (wr := (wd_b958b9da h0 h1 h3 x93 h3 g1 fn97)) (w1 := (wd_82cdd16b h1 h2 v1 x107 x95 x96 h2 g0 f5)) hP hD [1, 2] [0, 3] rfl rfl (by decide) (by decide) hk1 hFc hP1 hD1
          generalize H1 = H at hP hS ⊢
          have hP := hP.sub (ws' := (wd_1ad0248d h0 h1 h3 x93 h1 h2 v1 x107 x95 x96 h2 g0 f5 h3 g1 fn97)) [0, 2, 3, 1] rfl
          have hD := hD.sub (ws' := (wd_1ad0248d h0 h1 h3 x93 h1 h2 v1 x107 x95 x96 h2 g0 f5 h3 g1 fn97)) [0, 2, 3, 1] (by decide) rfl
          have hP : va_P (dC, dI) vwCl (wd_1ad0248d h0 h1 h3 x93 h1 h2 v1 x107 x95 x96 h2 g0 f5 h3 g1 fn97) H := hP
          have hD : va_D A (wd_1ad0248d h0 h1 h3 x93 h1 h2 v1 x107 x95 x96 h2 g0 f5 h3 g1 fn97) := hD
          refine lv_istore_n (lv' := [(3, .int ra106), (2, .int x92), (0, .ref h0), (1, .int 3)]) hx hb dX3_readSum_26 rfl hl (by decide) rfl (fun ls hl => ?_)
          refine lv_iload_n hx hb dX3_readSum_27 rfl (lv_at hl 0 rfl) ?_
          refine lv_bipush (v := 43) hx hb dX3_readSum_28 (by decide) ?_
          refine lv_icmp_eq (tgt := 41) hx hb dX3_readSum_30 (by decide) (fun c108 => ?_) (fun c108 => ?_)
          · skip
            have fc108 : ra106.toInt = 43 := congrArg Int32.toInt c108
            refine lv_aload_n hx hb dX3_readSum_41 rfl (lv_at hl 2 rfl) ?_
            refine va_get (D := (dC, dI)) (ci := 3) (v := .ref h1) (C := RX3) (T := TX3) (N := 3) hx hb hts (fun _ h => List.mem_cons_of_mem _ (List.mem_append_left _ (List.mem_append_right _ h))) hown hK hP 0 rfl rfl 0 (by decide) (hts (.fieldLink RX3 19 "LeftArguments$LawReader" "tape" "LLeftArguments$Tape;") (List.mem_cons_of_mem _ (List.mem_append_left _ (List.mem_append_left _ (List.mem_of_getElem? (i := 2) rfl))))) (fun _ h9 => h9) rfl dX3_readSum_42 ?_
            have hPc := hP.sub (ws' := (wd_09b0abee h1 h2 v1 x107 x95 x96)) [1] rfl
            have hDc := hD.sub (ws' := (wd_09b0abee h1 h2 v1 x107 x95 x96)) [1] (by decide) rfl
            have hKc := hK.sub (tys' := []) [] rfl
            have hFc := va_free (wc := (wd_09b0abee h1 h2 v1 x107 x95 x96)) hD hS hA [1] rfl
            refine va_callv (va_runV (As := []) (rest := []) ⟨hx, hb, hml, hown, hts⟩ (k_X10_step l dC dI h1 h2 v1 x107 x95 x96 ⟨by first | omega | decide, by first | omega | decide⟩ H.size) (cwV 0 hts g_X3_readSum_3_2 rfl rfl rfl (by decide +kernel) ⟨Nat.le_of_ble_eq_true rfl, Nat.le_of_ble_eq_true rfl⟩) ⟨fun a U g mk q => by obtain ⟨q0, q1, qP, qK, qD⟩ := q; exact ⟨q0, q1, qP, va_K.moved (u := U) (U := U.calling g mk a) (Vm.Alike.refl U.vm) qK, qD⟩, va_recv hKc hPc (ci := 10) (q0 := 0) rfl rfl, fun U hU hW => ⟨rfl, by rw [hU], by rw [hU]; exact hPc, va_K.moved hW.alike hKc, hDc.weaken (fun _ _ _ _ => trivial)⟩⟩ rfl rfl hl.1 rfl (lv_room (Nat.le_of_ble_eq_true rfl)) dX3_readSum_45 ⟨Nat.le_of_ble_eq_true rfl, Nat.le_of_ble_eq_true rfl⟩) hS (fun q _ h => hFc q h) hFc (fun u t H1 locs ht hvm hwra109 hB hz1 hk1 hS => ?_)
            obtain ⟨x110, hP1, hK1, hD1⟩ := hB
            rw [ht] at hP1
            obtain ⟨hP, hD⟩ := va_join (wr := (wd_6b0d8e05 h0 h1 h3 x93 h2 g0 f5 h3 g1 fn97)) (w1 := (wd_09b0abee h1 h2 v1 x110 x95 x96)) hP hD [1] [0, 2, 3] rfl rfl (by decide) (by decide) hk1 hFc hP1 hD1
            generalize H1 = H at hP hS ⊢
            have hP := hP.sub (ws' := (wd_1ad0248d h0 h1 h3 x93 h1 h2 v1 x110 x95 x96 h2 g0 f5 h3 g1 fn97)) [0, 3, 1, 2] rfl
            have hD := hD.sub (ws' := (wd_1ad0248d h0 h1 h3 x93 h1 h2 v1 x110 x95 x96 h2 g0 f5 h3 g1 fn97)) [0, 3, 1, 2] (by decide) rfl
            have hP : va_P (dC, dI) vwCl (wd_1ad0248d h0 h1 h3 x93 h1 h2 v1 x110 x95 x96 h2 g0 f5 h3 g1 fn97) H := hP
            have hD : va_D A (wd_1ad0248d h0 h1 h3 x93 h1 h2 v1 x110 x95 x96 h2 g0 f5 h3 g1 fn97) := hD
            refine lv_aload_n hx hb dX3_readSum_48 rfl (lv_at hl 2 rfl) ?_
            refine lv_iload_n hx hb dX3_readSum_49 rfl (lv_at hl 3 rfl) ?_
            have hPc := hP.sub (ws' := (wd_1ad0248d h0 h1 h3 x93 h1 h2 v1 x110 x95 x96 h2 g0 f5 h3 g1 fn97)) [0, 1, 2, 3] rfl
            have hDc := hD.sub (ws' := (wd_1ad0248d h0 h1 h3 x93 h1 h2 v1 x110 x95 x96 h2 g0 f5 h3 g1 fn97)) [0, 1, 2, 3] (by decide) rfl
            have hKc := hK.sub (tys' := [(g0, .int), (g1, .int)]) [0, 1] rfl
            have hFc := va_free (wc := (wd_1ad0248d h0 h1 h3 x93 h1 h2 v1 x110 x95 x96 h2 g0 f5 h3 g1 fn97)) hD hS hA [0, 1, 2, 3] rfl
            refine va_calli (va_runV (As := [.int 3]) (rest := []) ⟨hx, hb, hml, hown, hts⟩ (k_X3_readTerm_3 l dC dI adK adV h0 h1 h2 h3 x93 v1 x110 x95 x96 g0 f5 g1 fn97 ⟨by first | omega | decide, by first | omega | decide⟩ ⟨by first | omega | decide, by first | omega | decide⟩ H.size) (cwV 1 hts g_X3_readSum_3_0 rfl rfl rfl (by decide +kernel) ⟨Nat.le_of_ble_eq_true rfl, Nat.le_of_ble_eq_true rfl⟩) ⟨fun a U g mk q => by obtain ⟨q0, q1, qP, qK, qD, n0, n1, n2⟩ := q; exact ⟨q0, q1, qP, va_K.moved (u := U) (U := U.calling g mk a) (Vm.Alike.refl U.vm) qK, qD, vk_R.same rfl n0, va_Z.moved (Vm.Alike.refl _) n1, vk_S.moved (Vm.Alike.refl _) n2⟩, va_recv hKc hPc (ci := 3) (q0 := 0) rfl rfl, fun U hU hW => ⟨rfl, by rw [hU], by rw [hU]; exact hPc, va_K.moved hW.alike hKc, hDc.weaken (fun _ _ _ _ => trivial), vk_R.warm hW h_vr_2, (by rw [hU]; exact (va_Z.moved hW.alike (va_Z.kept h_st_CS hS.2.1)).narrow hFc), (by rw [hU]; exact (vk_S.moved hW.alike (vk_S.kept h_st_S hS.2.1)).narrow hFc)⟩⟩ rfl rfl hl.1 rfl (lv_room (Nat.le_of_ble_eq_true rfl)) dX3_readSum_50 ⟨Nat.le_of_ble_eq_true rfl, Nat.le_of_ble_eq_true rfl⟩) hS (fun q _ h => hFc q h) hFc (fun ra111 u t H1 locs ht hvm hwra111 hB hz1 hk1 hS => ?_)
            obtain ⟨x112, x113, x114, x115, fn116, oa_x112, ob_x112, hP1, hK1, hD1⟩ := hB
            rw [ht] at hP1
            obtain ⟨hP, hD⟩ := va_join (wr := []) (w1 := (wd_1ad0248d h0 h1 h3 x112 h1 h2 v1 x113 x114 x115 h2 g0 f5 h3 g1 fn116)) hP hD [0, 1, 2, 3] [] rfl rfl (by decide) (by decide) hk1 hFc hP1 hD1
            generalize H1 = H at hP hS ⊢
            have hP : va_P (dC, dI) vwCl (wd_1ad0248d h0 h1 h3 x112 h1 h2 v1 x113 x114 x115 h2 g0 f5 h3 g1 fn116) H := hP
            have hD : va_D A (wd_1ad0248d h0 h1 h3 x112 h1 h2 v1 x113 x114 x115 h2 g0 f5 h3 g1 fn116) := hD
            obtain ⟨wa_ra111, wb_ra111⟩ := hwra111
            have wa_ra111 : 0 ≤ ra111.toInt := wa_ra111
            have wb_ra111 : ra111.toInt ≤ 1 := wb_ra111
            refine lv_if_ne (tgt := 58) hx hb dX3_readSum_53 (by decide) (fun c117 => ?_) (fun c117 => ?_)
            · skip
              have fc117 : ¬ (ra111.toInt = 0) := fun h9 => c117 (Int32.toInt_inj.mp h9)
              refine lv_aload_n hx hb dX3_readSum_58 rfl (lv_at hl 2 rfl) ?_
              refine lv_iload_n hx hb dX3_readSum_59 rfl (lv_at hl 0 rfl) ?_
              refine lv_bipush (v := 43) hx hb dX3_readSum_60 (by decide) ?_
              refine lv_icmp_ne (tgt := 69) hx hb dX3_readSum_62 (by decide) (fun c118 => by exfalso; have fc118 : ¬ (ra106.toInt = 43) := fun h9 => c118 (Int32.toInt_inj.mp h9); omega) (fun _ => ?_)
              refine lv_iconst (v := 2) hx hb dX3_readSum_65 (by decide) ?_
              refine lv_goto (tgt := 70) hx hb dX3_readSum_66 (by decide) ?_
              refine lv_iconst (v := 0) hx hb dX3_readSum_70 (by decide) ?_
              have hPc := hP.sub (ws' := (wd_b958b9da h0 h1 h3 x112 h3 g1 fn116)) [0, 3] rfl
              have hDc := hD.sub (ws' := (wd_b958b9da h0 h1 h3 x112 h3 g1 fn116)) [0, 3] (by decide) rfl
              have hKc := hK.sub (tys' := [(g1, .int)]) [1] rfl
              have hFc := va_free (wc := (wd_b958b9da h0 h1 h3 x112 h3 g1 fn116)) hD hS hA [0, 3] rfl
              refine va_callv (va_runV (As := [.int 2, .int 0]) (rest := []) ⟨hx, hb, hml, hown, hts⟩ (k_X3_write l dC dI h0 h3 h1 x112 g1 fn116 2 0 ⟨by first | omega | decide, by first | omega | decide⟩ H.size) (cwV 2 hts g_X3_readSum_3_4 rfl rfl rfl (by decide +kernel) ⟨Nat.le_of_ble_eq_true rfl, Nat.le_of_ble_eq_true rfl⟩) ⟨fun a U g mk q => by obtain ⟨q0, q1, qP, qK, qD⟩ := q; exact ⟨q0, q1, qP, va_K.moved (u := U) (U := U.calling g mk a) (Vm.Alike.refl U.vm) qK, qD⟩, va_recv hKc hPc (ci := 3) (q0 := 0) rfl rfl, fun U hU hW => ⟨rfl, by rw [hU], by rw [hU]; exact hPc, va_K.moved hW.alike hKc, hDc.weaken (fun _ _ _ _ => trivial)⟩⟩ rfl rfl hl.1 rfl (lv_room (Nat.le_of_ble_eq_true rfl)) dX3_readSum_71 ⟨Nat.le_of_ble_eq_true rfl, Nat.le_of_ble_eq_true rfl⟩) hS (fun q _ h => hFc q h) hFc (fun u t H1 locs ht hvm hwra119 hB hz1 hk1 hS => ?_)
              obtain ⟨x120, fn121, oa_x120, ob_x120, hP1, hK1, hD1⟩ := hB
              rw [ht] at hP1
              obtain ⟨hP, hD⟩ := va_join (wr := (wd_82cdd16b h1 h2 v1 x113 x114 x115 h2 g0 f5)) (w1 := (wd_b958b9da h0 h1 h3 x120 h3 g1 fn121)) hP hD [0, 3] [1, 2] rfl rfl (by decide) (by decide) hk1 hFc hP1 hD1
              generalize H1 = H at hP hS ⊢
              have hP := hP.sub (ws' := (wd_1ad0248d h0 h1 h3 x120 h1 h2 v1 x113 x114 x115 h2 g0 f5 h3 g1 fn121)) [2, 0, 1, 3] rfl
              have hD := hD.sub (ws' := (wd_1ad0248d h0 h1 h3 x120 h1 h2 v1 x113 x114 x115 h2 g0 f5 h3 g1 fn121)) [2, 0, 1, 3] (by decide) rfl
              have hP : va_P (dC, dI) vwCl (wd_1ad0248d h0 h1 h3 x120 h1 h2 v1 x113 x114 x115 h2 g0 f5 h3 g1 fn121) H := hP
              have hD : va_D A (wd_1ad0248d h0 h1 h3 x120 h1 h2 v1 x113 x114 x115 h2 g0 f5 h3 g1 fn121) := hD
              obtain ⟨t122, et122⟩ : ∃ y : Int32, y = x92 + 1 := ⟨_, rfl⟩
              have gt122 : t122.toInt = x92.toInt + (1) := pv_add (a := x92.toInt) (b := (1)) et122 rfl (by decide) (by omega) (by omega)
              refine lv_iinc (v := t122) (lv' := [(2, .int t122), (3, .int ra106), (0, .ref h0), (1, .int 3)]) hx hb dX3_readSum_74 hl (k := 1) rfl (by rw [et122]; rfl) (by decide) rfl (fun ls hl => ?_)
              refine lv_goto (tgt := 12) hx hb dX3_readSum_77 (by decide) ?_
              exact ih_hL104 t122 x120 x113 x114 x115 fn121 H locs ls (by first | omega | decide) (by first | omega | decide) (by first | omega | decide) (by first | omega | decide) (by first | omega | (simp only [Int.toNat] at *; omega)) hP hD hS (lv_sub hl [0, 2, 3] rfl)
            · skip
              have fc117 : ra111.toInt = 0 := congrArg Int32.toInt c117
              refine lv_iconst (v := 0) hx hb dX3_readSum_56 (by decide) ?_
              subst hQ
              have hP9 := hP.sub (ws' := (wd_1ad0248d h0 h1 h3 x112 h1 h2 v1 x113 x114 x115 h2 g0 f5 h3 g1 fn116)) [0, 1, 2, 3] rfl
              have hD9 := hD.sub (ws' := (wd_1ad0248d h0 h1 h3 x112 h1 h2 v1 x113 x114 x115 h2 g0 f5 h3 g1 fn116)) [0, 1, 2, 3] (by decide) rfl
              have hK9 := hK.sub (tys' := []) [] rfl
              exact W.zret (v := 0) hx hb hr rfl (fun t ht hW => ⟨⟨0, (), rfl, ⟨by first | omega | decide, by first | omega | decide⟩, x112, x113, x114, x115, fn116, by first | omega | decide, by first | omega | decide, by rw [ht]; exact hP9, va_K.moved hW.alike hK9, hD9⟩, hS.F ht⟩) hS.2.2 dX3_readSum_57
          · skip
            have fc108 : ¬ (ra106.toInt = 43) := fun h9 => c108 (Int32.toInt_inj.mp h9)
            refine lv_iload_n hx hb dX3_readSum_33 rfl (lv_at hl 0 rfl) ?_
            refine lv_bipush (v := 45) hx hb dX3_readSum_34 (by decide) ?_
            refine lv_icmp_eq (tgt := 41) hx hb dX3_readSum_36 (by decide) (fun c123 => ?_) (fun c123 => ?_)
            · skip
              have fc123 : ra106.toInt = 45 := congrArg Int32.toInt c123
              refine lv_aload_n hx hb dX3_readSum_41 rfl (lv_at hl 2 rfl) ?_
              refine va_get (D := (dC, dI)) (ci := 3) (v := .ref h1) (C := RX3) (T := TX3) (N := 3) hx hb hts (fun _ h => List.mem_cons_of_mem _ (List.mem_append_left _ (List.mem_append_right _ h))) hown hK hP 0 rfl rfl 0 (by decide) (hts (.fieldLink RX3 19 "LeftArguments$LawReader" "tape" "LLeftArguments$Tape;") (List.mem_cons_of_mem _ (List.mem_append_left _ (List.mem_append_left _ (List.mem_of_getElem? (i := 2) rfl))))) (fun _ h9 => h9) rfl dX3_readSum_42 ?_
              have hPc := hP.sub (ws' := (wd_09b0abee h1 h2 v1 x107 x95 x96)) [1] rfl
              have hDc := hD.sub (ws' := (wd_09b0abee h1 h2 v1 x107 x95 x96)) [1] (by decide) rfl
              have hKc := hK.sub (tys' := []) [] rfl
              have hFc := va_free (wc := (wd_09b0abee h1 h2 v1 x107 x95 x96)) hD hS hA [1] rfl
              refine va_callv (va_runV (As := []) (rest := []) ⟨hx, hb, hml, hown, hts⟩ (k_X10_step l dC dI h1 h2 v1 x107 x95 x96 ⟨by first | omega | decide, by first | omega | decide⟩ H.size) (cwV 0 hts g_X3_readSum_3_2 rfl rfl rfl (by decide +kernel) ⟨Nat.le_of_ble_eq_true rfl, Nat.le_of_ble_eq_true rfl⟩) ⟨fun a U g mk q => by obtain ⟨q0, q1, qP, qK, qD⟩ := q; exact ⟨q0, q1, qP, va_K.moved (u := U) (U := U.calling g mk a) (Vm.Alike.refl U.vm) qK, qD⟩, va_recv hKc hPc (ci := 10) (q0 := 0) rfl rfl, fun U hU hW => ⟨rfl, by rw [hU], by rw [hU]; exact hPc, va_K.moved hW.alike hKc, hDc.weaken (fun _ _ _ _ => trivial)⟩⟩ rfl rfl hl.1 rfl (lv_room (Nat.le_of_ble_eq_true rfl)) dX3_readSum_45 ⟨Nat.le_of_ble_eq_true rfl, Nat.le_of_ble_eq_true rfl⟩) hS (fun q _ h => hFc q h) hFc (fun u t H1 locs ht hvm hwra124 hB hz1 hk1 hS => ?_)
              obtain ⟨x125, hP1, hK1, hD1⟩ := hB
              rw [ht] at hP1
              obtain ⟨hP, hD⟩ := va_join (wr := (wd_6b0d8e05 h0 h1 h3 x93 h2 g0 f5 h3 g1 fn97)) (w1 := (wd_09b0abee h1 h2 v1 x125 x95 x96)) hP hD [1] [0, 2, 3] rfl rfl (by decide) (by decide) hk1 hFc hP1 hD1
              generalize H1 = H at hP hS ⊢
              have hP := hP.sub (ws' := (wd_1ad0248d h0 h1 h3 x93 h1 h2 v1 x125 x95 x96 h2 g0 f5 h3 g1 fn97)) [0, 3, 1, 2] rfl
              have hD := hD.sub (ws' := (wd_1ad0248d h0 h1 h3 x93 h1 h2 v1 x125 x95 x96 h2 g0 f5 h3 g1 fn97)) [0, 3, 1, 2] (by decide) rfl
              have hP : va_P (dC, dI) vwCl (wd_1ad0248d h0 h1 h3 x93 h1 h2 v1 x125 x95 x96 h2 g0 f5 h3 g1 fn97) H := hP
              have hD : va_D A (wd_1ad0248d h0 h1 h3 x93 h1 h2 v1 x125 x95 x96 h2 g0 f5 h3 g1 fn97) := hD
              refine lv_aload_n hx hb dX3_readSum_48 rfl (lv_at hl 2 rfl) ?_
              refine lv_iload_n hx hb dX3_readSum_49 rfl (lv_at hl 3 rfl) ?_
              have hPc := hP.sub (ws' := (wd_1ad0248d h0 h1 h3 x93 h1 h2 v1 x125 x95 x96 h2 g0 f5 h3 g1 fn97)) [0, 1, 2, 3] rfl
              have hDc := hD.sub (ws' := (wd_1ad0248d h0 h1 h3 x93 h1 h2 v1 x125 x95 x96 h2 g0 f5 h3 g1 fn97)) [0, 1, 2, 3] (by decide) rfl
              have hKc := hK.sub (tys' := [(g0, .int), (g1, .int)]) [0, 1] rfl
              have hFc := va_free (wc := (wd_1ad0248d h0 h1 h3 x93 h1 h2 v1 x125 x95 x96 h2 g0 f5 h3 g1 fn97)) hD hS hA [0, 1, 2, 3] rfl
              refine va_calli (va_runV (As := [.int 3]) (rest := []) ⟨hx, hb, hml, hown, hts⟩ (k_X3_readTerm_3 l dC dI adK adV h0 h1 h2 h3 x93 v1 x125 x95 x96 g0 f5 g1 fn97 ⟨by first | omega | decide, by first | omega | decide⟩ ⟨by first | omega | decide, by first | omega | decide⟩ H.size) (cwV 1 hts g_X3_readSum_3_0 rfl rfl rfl (by decide +kernel) ⟨Nat.le_of_ble_eq_true rfl, Nat.le_of_ble_eq_true rfl⟩) ⟨fun a U g mk q => by obtain ⟨q0, q1, qP, qK, qD, n0, n1, n2⟩ := q; exact ⟨q0, q1, qP, va_K.moved (u := U) (U := U.calling g mk a) (Vm.Alike.refl U.vm) qK, qD, vk_R.same rfl n0, va_Z.moved (Vm.Alike.refl _) n1, vk_S.moved (Vm.Alike.refl _) n2⟩, va_recv hKc hPc (ci := 3) (q0 := 0) rfl rfl, fun U hU hW => ⟨rfl, by rw [hU], by rw [hU]; exact hPc, va_K.moved hW.alike hKc, hDc.weaken (fun _ _ _ _ => trivial), vk_R.warm hW h_vr_2, (by rw [hU]; exact (va_Z.moved hW.alike (va_Z.kept h_st_CS hS.2.1)).narrow hFc), (by rw [hU]; exact (vk_S.moved hW.alike (vk_S.kept h_st_S hS.2.1)).narrow hFc)⟩⟩ rfl rfl hl.1 rfl (lv_room (Nat.le_of_ble_eq_true rfl)) dX3_readSum_50 ⟨Nat.le_of_ble_eq_true rfl, Nat.le_of_ble_eq_true rfl⟩) hS (fun q _ h => hFc q h) hFc (fun ra126 u t H1 locs ht hvm hwra126 hB hz1 hk1 hS => ?_)
              obtain ⟨x127, x128, x129, x130, fn131, oa_x127, ob_x127, hP1, hK1, hD1⟩ := hB
              rw [ht] at hP1
              obtain ⟨hP, hD⟩ := va_join (wr := []) (w1 := (wd_1ad0248d h0 h1 h3 x127 h1 h2 v1 x128 x129 x130 h2 g0 f5 h3 g1 fn131)) hP hD [0, 1, 2, 3] [] rfl rfl (by decide) (by decide) hk1 hFc hP1 hD1
              generalize H1 = H at hP hS ⊢
              have hP : va_P (dC, dI) vwCl (wd_1ad0248d h0 h1 h3 x127 h1 h2 v1 x128 x129 x130 h2 g0 f5 h3 g1 fn131) H := hP
              have hD : va_D A (wd_1ad0248d h0 h1 h3 x127 h1 h2 v1 x128 x129 x130 h2 g0 f5 h3 g1 fn131) := hD
              obtain ⟨wa_ra126, wb_ra126⟩ := hwra126
              have wa_ra126 : 0 ≤ ra126.toInt := wa_ra126
              have wb_ra126 : ra126.toInt ≤ 1 := wb_ra126
              refine lv_if_ne (tgt := 58) hx hb dX3_readSum_53 (by decide) (fun c132 => ?_) (fun c132 => ?_)
              · skip
                have fc132 : ¬ (ra126.toInt = 0) := fun h9 => c132 (Int32.toInt_inj.mp h9)
                refine lv_aload_n hx hb dX3_readSum_58 rfl (lv_at hl 2 rfl) ?_
                refine lv_iload_n hx hb dX3_readSum_59 rfl (lv_at hl 0 rfl) ?_
                refine lv_bipush (v := 43) hx hb dX3_readSum_60 (by decide) ?_
                refine lv_icmp_ne (tgt := 69) hx hb dX3_readSum_62 (by decide) (fun _ => ?_) (fun c133 => by exfalso; have fc133 : ra106.toInt = 43 := congrArg Int32.toInt c133; omega)
                refine lv_iconst (v := 3) hx hb dX3_readSum_69 (by decide) ?_
                refine lv_iconst (v := 0) hx hb dX3_readSum_70 (by decide) ?_
                have hPc := hP.sub (ws' := (wd_b958b9da h0 h1 h3 x127 h3 g1 fn131)) [0, 3] rfl
                have hDc := hD.sub (ws' := (wd_b958b9da h0 h1 h3 x127 h3 g1 fn131)) [0, 3] (by decide) rfl
                have hKc := hK.sub (tys' := [(g1, .int)]) [1] rfl
                have hFc := va_free (wc := (wd_b958b9da h0 h1 h3 x127 h3 g1 fn131)) hD hS hA [0, 3] rfl
                refine va_callv (va_runV (As := [.int 3, .int 0]) (rest := []) ⟨hx, hb, hml, hown, hts⟩ (k_X3_write l dC dI h0 h3 h1 x127 g1 fn131 3 0 ⟨by first | omega | decide, by first | omega | decide⟩ H.size) (cwV 2 hts g_X3_readSum_3_4 rfl rfl rfl (by decide +kernel) ⟨Nat.le_of_ble_eq_true rfl, Nat.le_of_ble_eq_true rfl⟩) ⟨fun a U g mk q => by obtain ⟨q0, q1, qP, qK, qD⟩ := q; exact ⟨q0, q1, qP, va_K.moved (u := U) (U := U.calling g mk a) (Vm.Alike.refl U.vm) qK, qD⟩, va_recv hKc hPc (ci := 3) (q0 := 0) rfl rfl, fun U hU hW => ⟨rfl, by rw [hU], by rw [hU]; exact hPc, va_K.moved hW.alike hKc, hDc.weaken (fun _ _ _ _ => trivial)⟩⟩ rfl rfl hl.1 rfl (lv_room (Nat.le_of_ble_eq_true rfl)) dX3_readSum_71 ⟨Nat.le_of_ble_eq_true rfl, Nat.le_of_ble_eq_true rfl⟩) hS (fun q _ h => hFc q h) hFc (fun u t H1 locs ht hvm hwra134 hB hz1 hk1 hS => ?_)
                obtain ⟨x135, fn136, oa_x135, ob_x135, hP1, hK1, hD1⟩ := hB
                rw [ht] at hP1
                obtain ⟨hP, hD⟩ := va_join (wr := (wd_82cdd16b h1 h2 v1 x128 x129 x130 h2 g0 f5)) (w1 := (wd_b958b9da h0 h1 h3 x135 h3 g1 fn136)) hP hD [0, 3] [1, 2] rfl rfl (by decide) (by decide) hk1 hFc hP1 hD1
                generalize H1 = H at hP hS ⊢
                have hP := hP.sub (ws' := (wd_1ad0248d h0 h1 h3 x135 h1 h2 v1 x128 x129 x130 h2 g0 f5 h3 g1 fn136)) [2, 0, 1, 3] rfl
                have hD := hD.sub (ws' := (wd_1ad0248d h0 h1 h3 x135 h1 h2 v1 x128 x129 x130 h2 g0 f5 h3 g1 fn136)) [2, 0, 1, 3] (by decide) rfl
                have hP : va_P (dC, dI) vwCl (wd_1ad0248d h0 h1 h3 x135 h1 h2 v1 x128 x129 x130 h2 g0 f5 h3 g1 fn136) H := hP
                have hD : va_D A (wd_1ad0248d h0 h1 h3 x135 h1 h2 v1 x128 x129 x130 h2 g0 f5 h3 g1 fn136) := hD
                obtain ⟨t137, et137⟩ : ∃ y : Int32, y = x92 + 1 := ⟨_, rfl⟩
                have gt137 : t137.toInt = x92.toInt + (1) := pv_add (a := x92.toInt) (b := (1)) et137 rfl (by decide) (by omega) (by omega)
                refine lv_iinc (v := t137) (lv' := [(2, .int t137), (3, .int ra106), (0, .ref h0), (1, .int 3)]) hx hb dX3_readSum_74 hl (k := 1) rfl (by rw [et137]; rfl) (by decide) rfl (fun ls hl => ?_)
                refine lv_goto (tgt := 12) hx hb dX3_readSum_77 (by decide) ?_
                exact ih_hL104 t137 x135 x128 x129 x130 fn136 H locs ls (by first | omega | decide) (by first | omega | decide) (by first | omega | decide) (by first | omega | decide) (by first | omega | (simp only [Int.toNat] at *; omega)) hP hD hS (lv_sub hl [0, 2, 3] rfl)
              · skip
                have fc132 : ra126.toInt = 0 := congrArg Int32.toInt c132
                refine lv_iconst (v := 0) hx hb dX3_readSum_56 (by decide) ?_
                subst hQ
                have hP9 := hP.sub (ws' := (wd_1ad0248d h0 h1 h3 x127 h1 h2 v1 x128 x129 x130 h2 g0 f5 h3 g1 fn131)) [0, 1, 2, 3] rfl
                have hD9 := hD.sub (ws' := (wd_1ad0248d h0 h1 h3 x127 h1 h2 v1 x128 x129 x130 h2 g0 f5 h3 g1 fn131)) [0, 1, 2, 3] (by decide) rfl
                have hK9 := hK.sub (tys' := []) [] rfl
                exact W.zret (v := 0) hx hb hr rfl (fun t ht hW => ⟨⟨0, (), rfl, ⟨by first | omega | decide, by first | omega | decide⟩, x127, x128, x129, x130, fn131, by first | omega | decide, by first | omega | decide, by rw [ht]; exact hP9, va_K.moved hW.alike hK9, hD9⟩, hS.F ht⟩) hS.2.2 dX3_readSum_57
            · skip
              have fc123 : ¬ (ra106.toInt = 45) := fun h9 => c123 (Int32.toInt_inj.mp h9)
              refine lv_iconst (v := 1) hx hb dX3_readSum_39 (by decide) ?_
              subst hQ
              have hP9 := hP.sub (ws' := (wd_1ad0248d h0 h1 h3 x93 h1 h2 v1 x107 x95 x96 h2 g0 f5 h3 g1 fn97)) [0, 1, 2, 3] rfl
              have hD9 := hD.sub (ws' := (wd_1ad0248d h0 h1 h3 x93 h1 h2 v1 x107 x95 x96 h2 g0 f5 h3 g1 fn97)) [0, 1, 2, 3] (by decide) rfl
              have hK9 := hK.sub (tys' := []) [] rfl
              exact W.zret (v := 1) hx hb hr rfl (fun t ht hW => ⟨⟨1, (), rfl, ⟨by first | omega | decide, by first | omega | decide⟩, x93, x107, x95, x96, fn97, by first | omega | decide, by first | omega | decide, by rw [ht]; exact hP9, va_K.moved hW.alike hK9, hD9⟩, hS.F ht⟩) hS.2.2 dX3_readSum_40
    exact hL104 _ 0 x2 x3 x4 x5 fn6 H locs ls (by first | omega | decide) (by first | omega | decide) (by first | omega | decide) (by first | omega | decide) (Nat.lt_succ_self _) hP hD hS (lv_sub hl [0, 1, 2] rfl)
  · skip
    have fc7 : ra1.toInt = 0 := congrArg Int32.toInt c7
    refine lv_iconst (v := 0) hx hb dX3_readSum_8 (by decide) ?_
    subst hQ
    have hP9 := hP.sub (ws' := (wd_1ad0248d h0 h1 h3 x2 h1 h2 v1 x3 x4 x5 h2 g0 f5 h3 g1 fn6)) [0, 1, 2, 3] rfl
    have hD9 := hD.sub (ws' := (wd_1ad0248d h0 h1 h3 x2 h1 h2 v1 x3 x4 x5 h2 g0 f5 h3 g1 fn6)) [0, 1, 2, 3] (by decide) rfl
    have hK9 := hK.sub (tys' := []) [] rfl
    exact W.zret (v := 0) hx hb hr rfl (fun t ht hW => ⟨⟨0, (), rfl, ⟨by first | omega | decide, by first | omega | decide⟩, x2, x3, x4, x5, fn6, by first | omega | decide, by first | omega | decide, by rw [ht]; exact hP9, va_K.moved hW.alike hK9, hD9⟩, hS.F ht⟩) hS.2.2 dX3_readSum_9
def q_X3_readAtom_4 : List Cond := .code yX3_readAtom cX3_readAtom 4 (some .boolean) :: (([.fieldLink RX3 19 "LeftArguments$LawReader" "tape" "LLeftArguments$Tape;", .code yX10_next cX10_next 1 (some .int), .fieldLink RX10 19 "LeftArguments$Tape" "at" "I", .fieldLink RX10 15 "LeftArguments$Tape" "used" "I", .fieldLink RX10 9 "LeftArguments$Tape" "bytes" "[I", .initialized RX10, .instanceMethod yX10_next, .selects RX10 yX10_next yX10_next, .methodLink RX3 48 yX10_next, .code yX10_isDigit cX10_isDigit 1 (some .boolean), .static yX10_isDigit, .methodLink RX3 92 yX10_isDigit, .code yX10_step cX10_step 1 none, .instanceMethod yX10_step, .selects RX10 yX10_step yX10_step, .methodLink RX3 77 yX10_step, .code yX3_write cX3_write 3 none, .fieldLink RX3 15 "LeftArguments$LawReader" "used" "I", .fieldLink RX3 11 "LeftArguments$LawReader" "code" "[I", .initialized RX3, .instanceMethod yX3_write, .selects RX3 yX3_write yX3_write, .methodLink RX3 66 yX3_write, .code yX10_wrongHere cX10_wrongHere 1 (some .boolean), .fieldLink RX10 22 "LeftArguments$Tape" "wrongAt" "I", .instanceMethod yX10_wrongHere, .selects RX10 yX10_wrongHere yX10_wrongHere, .methodLink RX3 83 yX10_wrongHere, .code yJ0_indexOf_0f7a4 cJ0_indexOf_0f7a4 2 (some .int), .code yJ0_indexOf_7cf53 cJ0_indexOf_7cf53 3 (some .int), .code yJ0_isLatin1_aae02 cJ0_isLatin1_aae02 1 (some .boolean), .fieldLink RJ0 38 "java/lang/String" "COMPACT_STRINGS" "Z", .fieldLink RJ0 15 "java/lang/String" "coder" "B", .initialized RJ0, .instanceMethod yJ0_isLatin1_aae02, .selects RJ0 yJ0_isLatin1_aae02 yJ0_isLatin1_aae02, .methodLink RJ0 492 yJ0_isLatin1_aae02, .fieldLink RJ0 9 "java/lang/String" "value" "[B", .code yJ0_length_8abf5 cJ0_length_8abf5 1 (some .int), .code yJ0_coder_7d493 cJ0_coder_7d493 1 (some .byte), .instanceMethod yJ0_coder_7d493, .selects RJ0 yJ0_coder_7d493 yJ0_coder_7d493, .methodLink RJ0 335 yJ0_coder_7d493, .instanceMethod yJ0_length_8abf5, .selects RJ0 yJ0_length_8abf5 yJ0_length_8abf5, .methodLink RJ0 505 yJ0_length_8abf5, .code yJ1_indexOf_4cfef cJ1_indexOf_4cfef 4 (some .int), .code yJ1_canEncode_9a6ad cJ1_canEncode_9a6ad 1 (some .boolean), .initialized RJ1, .static yJ1_canEncode_9a6ad, .methodLink RJ1 88 yJ1_canEncode_9a6ad, .methodLink RJ1 92 Lib.Math.max.name, .static Lib.Math.max.name, .initialized "java/lang/Math", .code Lib.Math.max.name Lib.Math.max.code 2 (some .int), .methodLink RJ1 38 Lib.Math.min.name, .static Lib.Math.min.name, .code Lib.Math.min.name Lib.Math.min.code 2 (some .int), .code yJ1_indexOfChar_4cfef cJ1_indexOfChar_4cfef 6 (some .int), .static yJ1_indexOfChar_4cfef, .methodLink RJ1 95 yJ1_indexOfChar_4cfef, .static yJ1_indexOf_4cfef, .methodLink RJ0 637 yJ1_indexOf_4cfef, .instanceMethod yJ0_indexOf_7cf53, .selects RJ0 yJ0_indexOf_7cf53 yJ0_indexOf_7cf53, .methodLink RJ0 633 yJ0_indexOf_7cf53, .instanceMethod yJ0_indexOf_0f7a4, .selects RJ0 yJ0_indexOf_0f7a4 yJ0_indexOf_0f7a4, .methodLink RX3 103 yJ0_indexOf_0f7a4, .code yX10_takeNumber cX10_takeNumber 3 (some .boolean), .methodLink RX10 37 yX10_next, .methodLink RX10 45 yX10_isDigit, .fieldLink RX10 25 "LeftArguments$Tape" "number" "I", .code yX10_sign cX10_sign 1 (some .int), .instanceMethod yX10_sign, .selects RX10 yX10_sign yX10_sign, .methodLink RX10 49 yX10_sign, .methodLink RX10 41 yX10_wrongHere, .instanceMethod yX10_takeNumber, .selects RX10 yX10_takeNumber yX10_takeNumber, .methodLink RX3 95 yX10_takeNumber, .code yX10_number cX10_number 1 (some .int), .instanceMethod yX10_number, .selects RX10 yX10_number yX10_number, .methodLink RX3 98 yX10_number, .code yX3_readSum cX3_readSum 4 (some .boolean), .code yX3_readTerm cX3_readTerm 4 (some .boolean), .code yX3_readAtom cX3_readAtom 4 (some .boolean), .instanceMethod yX3_readAtom, .selects RX3 yX3_readAtom yX3_readAtom, .methodLink RX3 89 yX3_readAtom, .instanceMethod yX3_readTerm, .selects RX3 yX3_readTerm yX3_readTerm, .methodLink RX3 86 yX3_readTerm, .instanceMethod yX3_readSum, .selects RX3 yX3_readSum yX3_readSum, .methodLink RX3 59 yX3_readSum, .code yX10_take cX10_take 2 (some .boolean), .instanceMethod yX10_take, .selects RX10 yX10_take yX10_take, .methodLink RX3 51 yX10_take] : List Cond) ++ wsX30 ++ wsX100)
set_option maxRecDepth 20000 in
theorem g_X3_readAtom_4_0 : GoodIn q_X3_readAtom_4 (wsV RX3 48 RX10 yX10_next q_X10_next) := goodIn_app (goodIn_r _ [9, 7, 8, 6] rfl (by decide +kernel)) (goodIn_ca (goodIn_r (.code yX10_next cX10_next 1 (some .int) :: [.fieldLink RX10 19 "LeftArguments$Tape" "at" "I", .fieldLink RX10 15 "LeftArguments$Tape" "used" "I", .fieldLink RX10 9 "LeftArguments$Tape" "bytes" "[I"]) [2, 3, 4, 5] rfl (by decide +kernel)) (goodIn_sub (fun _ h => List.mem_cons_of_mem _ (List.mem_append_right _ h)) gwX10))
set_option maxRecDepth 20000 in
theorem g_X3_readAtom_4_1 : GoodIn q_X3_readAtom_4 (va_wsS RX3 92 yX10_isDigit q_X10_isDigit) := goodIn_app (goodIn_r _ [12, 11, 6] rfl (by decide +kernel)) (goodIn_r (.code yX10_isDigit cX10_isDigit 1 (some .boolean) :: []) [10] rfl (by decide +kernel))
set_option maxRecDepth 20000 in
theorem g_X3_readAtom_4_2 : GoodIn q_X3_readAtom_4 (wsV RX3 77 RX10 yX10_step q_X10_step) := goodIn_app (goodIn_r _ [16, 14, 15, 6] rfl (by decide +kernel)) (goodIn_ca (goodIn_r (.code yX10_step cX10_step 1 none :: [.fieldLink RX10 19 "LeftArguments$Tape" "at" "I"]) [13, 3] rfl (by decide +kernel)) (goodIn_sub (fun _ h => List.mem_cons_of_mem _ (List.mem_append_right _ h)) gwX10))
set_option maxRecDepth 20000 in
theorem g_X3_readAtom_4_3 : GoodIn q_X3_readAtom_4 (wsV RX3 66 RX3 yX3_write q_X3_write) := goodIn_app (goodIn_r _ [23, 21, 22, 20] rfl (by decide +kernel)) (goodIn_ca (goodIn_r (.code yX3_write cX3_write 3 none :: [.fieldLink RX3 15 "LeftArguments$LawReader" "used" "I", .fieldLink RX3 11 "LeftArguments$LawReader" "code" "[I"]) [17, 18, 19] rfl (by decide +kernel)) (goodIn_sub (fun _ h => List.mem_cons_of_mem _ (List.mem_append_left _ (List.mem_append_right _ h))) gwX3))
set_option maxRecDepth 20000 in
theorem g_X3_readAtom_4_4 : GoodIn q_X3_readAtom_4 (wsV RX3 83 RX10 yX10_wrongHere q_X10_wrongHere) := goodIn_app (goodIn_r _ [28, 26, 27, 6] rfl (by decide +kernel)) (goodIn_ca (goodIn_r (.code yX10_wrongHere cX10_wrongHere 1 (some .boolean) :: [.fieldLink RX10 19 "LeftArguments$Tape" "at" "I", .fieldLink RX10 22 "LeftArguments$Tape" "wrongAt" "I"]) [24, 3, 25] rfl (by decide +kernel)) (goodIn_sub (fun _ h => List.mem_cons_of_mem _ (List.mem_append_right _ h)) gwX10))
set_option maxRecDepth 20000 in
theorem g_X3_readAtom_4_5 : GoodIn q_X3_readAtom_4 (wsV RX3 103 RJ0 yJ0_indexOf_0f7a4 q_J0_indexOf_0f7a4) := goodIn_app (goodIn_r _ [69, 67, 68, 34] rfl (by decide +kernel)) (goodIn_r (.code yJ0_indexOf_0f7a4 cJ0_indexOf_0f7a4 2 (some .int) :: [.code yJ0_indexOf_7cf53 cJ0_indexOf_7cf53 3 (some .int), .code yJ0_isLatin1_aae02 cJ0_isLatin1_aae02 1 (some .boolean), .fieldLink RJ0 38 "java/lang/String" "COMPACT_STRINGS" "Z", .fieldLink RJ0 15 "java/lang/String" "coder" "B", .initialized RJ0, .instanceMethod yJ0_isLatin1_aae02, .selects RJ0 yJ0_isLatin1_aae02 yJ0_isLatin1_aae02, .methodLink RJ0 492 yJ0_isLatin1_aae02, .fieldLink RJ0 9 "java/lang/String" "value" "[B", .code yJ0_length_8abf5 cJ0_length_8abf5 1 (some .int), .code yJ0_coder_7d493 cJ0_coder_7d493 1 (some .byte), .instanceMethod yJ0_coder_7d493, .selects RJ0 yJ0_coder_7d493 yJ0_coder_7d493, .methodLink RJ0 335 yJ0_coder_7d493, .instanceMethod yJ0_length_8abf5, .selects RJ0 yJ0_length_8abf5 yJ0_length_8abf5, .methodLink RJ0 505 yJ0_length_8abf5, .code yJ1_indexOf_4cfef cJ1_indexOf_4cfef 4 (some .int), .code yJ1_canEncode_9a6ad cJ1_canEncode_9a6ad 1 (some .boolean), .initialized RJ1, .static yJ1_canEncode_9a6ad, .methodLink RJ1 88 yJ1_canEncode_9a6ad, .methodLink RJ1 92 Lib.Math.max.name, .static Lib.Math.max.name, .initialized "java/lang/Math", .code Lib.Math.max.name Lib.Math.max.code 2 (some .int), .methodLink RJ1 38 Lib.Math.min.name, .static Lib.Math.min.name, .code Lib.Math.min.name Lib.Math.min.code 2 (some .int), .code yJ1_indexOfChar_4cfef cJ1_indexOfChar_4cfef 6 (some .int), .static yJ1_indexOfChar_4cfef, .methodLink RJ1 95 yJ1_indexOfChar_4cfef, .static yJ1_indexOf_4cfef, .methodLink RJ0 637 yJ1_indexOf_4cfef, .instanceMethod yJ0_indexOf_7cf53, .selects RJ0 yJ0_indexOf_7cf53 yJ0_indexOf_7cf53, .methodLink RJ0 633 yJ0_indexOf_7cf53]) [29, 30, 31, 32, 33, 34, 35, 36, 37, 38, 39, 40, 41, 42, 43, 44, 45, 46, 47, 48, 49, 50, 51, 52, 53, 54, 55, 56, 57, 58, 59, 60, 61, 62, 63, 64, 65, 66] rfl (by decide +kernel))
set_option maxRecDepth 20000 in
theorem g_X3_readAtom_4_6 : GoodIn q_X3_readAtom_4 (wsV RX3 95 RX10 yX10_takeNumber q_X10_takeNumber) := goodIn_app (goodIn_r _ [81, 79, 80, 6] rfl (by decide +kernel)) (goodIn_ca (goodIn_r (.code yX10_takeNumber cX10_takeNumber 3 (some .boolean) :: [.code yX10_next cX10_next 1 (some .int), .fieldLink RX10 19 "LeftArguments$Tape" "at" "I", .fieldLink RX10 15 "LeftArguments$Tape" "used" "I", .fieldLink RX10 9 "LeftArguments$Tape" "bytes" "[I", .initialized RX10, .instanceMethod yX10_next, .selects RX10 yX10_next yX10_next, .methodLink RX10 37 yX10_next, .code yX10_isDigit cX10_isDigit 1 (some .boolean), .static yX10_isDigit, .methodLink RX10 45 yX10_isDigit, .fieldLink RX10 25 "LeftArguments$Tape" "number" "I", .code yX10_sign cX10_sign 1 (some .int), .instanceMethod yX10_sign, .selects RX10 yX10_sign yX10_sign, .methodLink RX10 49 yX10_sign, .code yX10_wrongHere cX10_wrongHere 1 (some .boolean), .fieldLink RX10 22 "LeftArguments$Tape" "wrongAt" "I", .instanceMethod yX10_wrongHere, .selects RX10 yX10_wrongHere yX10_wrongHere, .methodLink RX10 41 yX10_wrongHere]) [70, 2, 3, 4, 5, 6, 7, 8, 71, 10, 11, 72, 73, 74, 75, 76, 77, 24, 25, 26, 27, 78] rfl (by decide +kernel)) (goodIn_sub (fun _ h => List.mem_cons_of_mem _ (List.mem_append_right _ h)) gwX10))
set_option maxRecDepth 20000 in
theorem g_X3_readAtom_4_7 : GoodIn q_X3_readAtom_4 (wsV RX3 98 RX10 yX10_number q_X10_number) := goodIn_app (goodIn_r _ [85, 83, 84, 6] rfl (by decide +kernel)) (goodIn_ca (goodIn_r (.code yX10_number cX10_number 1 (some .int) :: [.fieldLink RX10 25 "LeftArguments$Tape" "number" "I"]) [82, 73] rfl (by decide +kernel)) (goodIn_sub (fun _ h => List.mem_cons_of_mem _ (List.mem_append_right _ h)) gwX10))
set_option maxRecDepth 20000 in
theorem g_X3_readAtom_4_10 : GoodIn q_X3_readAtom_4 (wsV RX3 59 RX3 yX3_readSum q_X3_readSum_3) := goodIn_app (goodIn_r _ [97, 95, 96, 20] rfl (by decide +kernel)) (goodIn_ca (goodIn_ca (goodIn_r (.code yX3_readSum cX3_readSum 4 (some .boolean) :: [.code yX3_readTerm cX3_readTerm 4 (some .boolean), .code yX3_readAtom cX3_readAtom 4 (some .boolean), .fieldLink RX3 19 "LeftArguments$LawReader" "tape" "LLeftArguments$Tape;", .code yX10_next cX10_next 1 (some .int), .fieldLink RX10 19 "LeftArguments$Tape" "at" "I", .fieldLink RX10 15 "LeftArguments$Tape" "used" "I", .fieldLink RX10 9 "LeftArguments$Tape" "bytes" "[I", .initialized RX10, .instanceMethod yX10_next, .selects RX10 yX10_next yX10_next, .methodLink RX3 48 yX10_next, .code yX10_isDigit cX10_isDigit 1 (some .boolean), .static yX10_isDigit, .methodLink RX3 92 yX10_isDigit, .code yX10_step cX10_step 1 none, .instanceMethod yX10_step, .selects RX10 yX10_step yX10_step, .methodLink RX3 77 yX10_step, .code yX3_write cX3_write 3 none, .fieldLink RX3 15 "LeftArguments$LawReader" "used" "I", .fieldLink RX3 11 "LeftArguments$LawReader" "code" "[I", .initialized RX3, .instanceMethod yX3_write, .selects RX3 yX3_write yX3_write, .methodLink RX3 66 yX3_write, .code yX10_wrongHere cX10_wrongHere 1 (some .boolean), .fieldLink RX10 22 "LeftArguments$Tape" "wrongAt" "I", .instanceMethod yX10_wrongHere, .selects RX10 yX10_wrongHere yX10_wrongHere, .methodLink RX3 83 yX10_wrongHere, .code yJ0_indexOf_0f7a4 cJ0_indexOf_0f7a4 2 (some .int), .code yJ0_indexOf_7cf53 cJ0_indexOf_7cf53 3 (some .int), .code yJ0_isLatin1_aae02 cJ0_isLatin1_aae02 1 (some .boolean), .fieldLink RJ0 38 "java/lang/String" "COMPACT_STRINGS" "Z", .fieldLink RJ0 15 "java/lang/String" "coder" "B", .initialized RJ0, .instanceMethod yJ0_isLatin1_aae02, .selects RJ0 yJ0_isLatin1_aae02 yJ0_isLatin1_aae02, .methodLink RJ0 492 yJ0_isLatin1_aae02, .fieldLink RJ0 9 "java/lang/String" "value" "[B", .code yJ0_length_8abf5 cJ0_length_8abf5 1 (some .int), .code yJ0_coder_7d493 cJ0_coder_7d493 1 (some .byte), .instanceMethod yJ0_coder_7d493, .selects RJ0 yJ0_coder_7d493 yJ0_coder_7d493, .methodLink RJ0 335 yJ0_coder_7d493, .instanceMethod yJ0_length_8abf5, .selects RJ0 yJ0_length_8abf5 yJ0_length_8abf5, .methodLink RJ0 505 yJ0_length_8abf5, .code yJ1_indexOf_4cfef cJ1_indexOf_4cfef 4 (some .int), .code yJ1_canEncode_9a6ad cJ1_canEncode_9a6ad 1 (some .boolean), .initialized RJ1, .static yJ1_canEncode_9a6ad, .methodLink RJ1 88 yJ1_canEncode_9a6ad, .methodLink RJ1 92 Lib.Math.max.name, .static Lib.Math.max.name, .initialized "java/lang/Math", .code Lib.Math.max.name Lib.Math.max.code 2 (some .int), .methodLink RJ1 38 Lib.Math.min.name, .static Lib.Math.min.name, .code Lib.Math.min.name Lib.Math.min.code 2 (some .int), .code yJ1_indexOfChar_4cfef cJ1_indexOfChar_4cfef 6 (some .int), .static yJ1_indexOfChar_4cfef, .methodLink RJ1 95 yJ1_indexOfChar_4cfef, .static yJ1_indexOf_4cfef, .methodLink RJ0 637 yJ1_indexOf_4cfef, .instanceMethod yJ0_indexOf_7cf53, .selects RJ0 yJ0_indexOf_7cf53 yJ0_indexOf_7cf53, .methodLink RJ0 633 yJ0_indexOf_7cf53, .instanceMethod yJ0_indexOf_0f7a4, .selects RJ0 yJ0_indexOf_0f7a4 yJ0_indexOf_0f7a4, .methodLink RX3 103 yJ0_indexOf_0f7a4, .code yX10_takeNumber cX10_takeNumber 3 (some .boolean), .methodLink RX10 37 yX10_next, .methodLink RX10 45 yX10_isDigit, .fieldLink RX10 25 "LeftArguments$Tape" "number" "I", .code yX10_sign cX10_sign 1 (some .int), .instanceMethod yX10_sign, .selects RX10 yX10_sign yX10_sign, .methodLink RX10 49 yX10_sign, .methodLink RX10 41 yX10_wrongHere, .instanceMethod yX10_takeNumber, .selects RX10 yX10_takeNumber yX10_takeNumber, .methodLink RX3 95 yX10_takeNumber, .code yX10_number cX10_number 1 (some .int), .instanceMethod yX10_number, .selects RX10 yX10_number yX10_number, .methodLink RX3 98 yX10_number, .code yX3_readSum cX3_readSum 4 (some .boolean), .instanceMethod yX3_readAtom, .selects RX3 yX3_readAtom yX3_readAtom, .methodLink RX3 89 yX3_readAtom, .instanceMethod yX3_readTerm, .selects RX3 yX3_readTerm yX3_readTerm, .methodLink RX3 86 yX3_readTerm, .instanceMethod yX3_readSum, .selects RX3 yX3_readSum yX3_readSum, .methodLink RX3 59 yX3_readSum, .code yX10_take cX10_take 2 (some .boolean), .instanceMethod yX10_take, .selects RX10 yX10_take yX10_take, .methodLink RX3 51 yX10_take]) [86, 87, 88, 1, 2, 3, 4, 5, 6, 7, 8, 9, 10, 11, 12, 13, 14, 15, 16, 17, 18, 19, 20, 21, 22, 23, 24, 25, 26, 27, 28, 29, 30, 31, 32, 33, 34, 35, 36, 37, 38, 39, 40, 41, 42, 43, 44, 45, 46, 47, 48, 49, 50, 51, 52, 53, 54, 55, 56, 57, 58, 59, 60, 61, 62, 63, 64, 65, 66, 67, 68, 69, 70, 71, 72, 73, 74, 75, 76, 77, 78, 79, 80, 81, 82, 83, 84, 85, 86, 89, 90, 91, 92, 93, 94, 95, 96, 97, 98, 99, 100, 101] rfl (by decide +kernel)) (goodIn_sub (fun _ h => List.mem_cons_of_mem _ (List.mem_append_left _ (List.mem_append_right _ h))) gwX3)) (goodIn_sub (fun _ h => List.mem_cons_of_mem _ (List.mem_append_right _ h)) gwX10))
set_option maxRecDepth 20000 in
theorem g_X3_readAtom_4_11 : GoodIn q_X3_readAtom_4 (wsV RX3 51 RX10 yX10_take q_X10_take) := goodIn_app (goodIn_r _ [101, 99, 100, 6] rfl (by decide +kernel)) (goodIn_ca (goodIn_r (.code yX10_take cX10_take 2 (some .boolean) :: [.code yX10_next cX10_next 1 (some .int), .fieldLink RX10 19 "LeftArguments$Tape" "at" "I", .fieldLink RX10 15 "LeftArguments$Tape" "used" "I", .fieldLink RX10 9 "LeftArguments$Tape" "bytes" "[I", .initialized RX10, .instanceMethod yX10_next, .selects RX10 yX10_next yX10_next, .methodLink RX10 37 yX10_next, .code yX10_wrongHere cX10_wrongHere 1 (some .boolean), .fieldLink RX10 22 "LeftArguments$Tape" "wrongAt" "I", .instanceMethod yX10_wrongHere, .selects RX10 yX10_wrongHere yX10_wrongHere, .methodLink RX10 41 yX10_wrongHere]) [98, 2, 3, 4, 5, 6, 7, 8, 71, 24, 25, 26, 27, 78] rfl (by decide +kernel)) (goodIn_sub (fun _ h => List.mem_cons_of_mem _ (List.mem_append_right _ h)) gwX10))
set_option maxHeartbeats 4000000 in
set_option maxRecDepth 100000 in
theorem k_X3_readAtom_4 (l : Launch) (dC : Nat → ClassId) (dI : Nat → Nat → Nat) (adK : Nat → Nat) (adV : Nat → Nat) (h0 : Nat) (h1 : Nat) (h2 : Nat) (h3 : Nat) (v0 : Int32) (v1 : Int32) (v2 : Int32) (v3 : Int32) (v4 : Int32) (g0 : ClassId) (f5 : Nat → Int32) (g1 : ClassId) (f6 : Nat → Int32) (i_v0 : 0 ≤ v0.toInt ∧ v0.toInt ≤ 256) (i_v1 : 0 ≤ v1.toInt ∧ v1.toInt ≤ 240) (sz : Nat) : Met l yX3_readAtom q_X3_readAtom_4 ({ frames := 16, cells := 0, slots := 0, locals := 367 }) (va_Pc [.ref h0, .int 2] (fun U => U.heap.size = sz ∧ va_P (dC, dI) vwCl (wd_1ad0248d h0 h1 h3 v0 h1 h2 v1 v2 v3 v4 h2 g0 f5 h3 g1 f6) U.heap ∧ va_K (dC, dI) vwCl [(g0, .int), (g1, .int)] U ∧ va_D (fun _ => True) (wd_1ad0248d h0 h1 h3 v0 h1 h2 v1 v2 v3 v4 h2 g0 f5 h3 g1 f6) ∧ vk_R RX3 101 "zaondt" (adK 2) U ∧ va_Z "java/lang/String" "COMPACT_STRINGS" "Z" (.int 1) (va_A (wd_1ad0248d h0 h1 h3 v0 h1 h2 v1 v2 v3 v4 h2 g0 f5 h3 g1 f6) sz) U U.heap ∧ vk_S 3 pv_len3 pv_byt3 adK adV (va_A (wd_1ad0248d h0 h1 h3 v0 h1 h2 v1 v2 v3 v4 h2 g0 f5 h3 g1 f6) sz) U U.heap)) (va_Qi (fun (r : Int32) (_ : Unit) => 0 ≤ r.toInt ∧ r.toInt ≤ 1) (fun (_ : Unit) (t : State) => ∃ (o_h0_2 : Int32) (o_h1_2 : Int32) (o_h1_3 : Int32) (o_h1_4 : Int32) (o_h3 : Nat → Int32), 0 ≤ o_h0_2.toInt ∧ o_h0_2.toInt ≤ 256 ∧ va_P (dC, dI) vwCl (wd_1ad0248d h0 h1 h3 o_h0_2 h1 h2 v1 o_h1_2 o_h1_3 o_h1_4 h2 g0 f5 h3 g1 o_h3) t.heap ∧ va_K (dC, dI) vwCl [] t ∧ va_D (va_A (wd_1ad0248d h0 h1 h3 v0 h1 h2 v1 v2 v3 v4 h2 g0 f5 h3 g1 f6) sz) (wd_1ad0248d h0 h1 h3 o_h0_2 h1 h2 v1 o_h1_2 o_h1_3 o_h1_4 h2 g0 f5 h3 g1 o_h3)) (va_A (wd_1ad0248d h0 h1 h3 v0 h1 h2 v1 v2 v3 v4 h2 g0 f5 h3 g1 f6) sz)) 0 0 (va_A (wd_1ad0248d h0 h1 h3 v0 h1 h2 v1 v2 v3 v4 h2 g0 f5 h3 g1 f6) sz) := by
  refine Met.ofW (cc := cX3_readAtom) (maxL := 4) (ret := (some .boolean)) (by decide) rfl ?_
  intro p e s m args below meth c s₁ B hml hv
  obtain ⟨i_v0a, i_v0b⟩ := i_v0
  obtain ⟨i_v1a, i_v1b⟩ := i_v1
  obtain ⟨rfl, hsz, hP, hK, hD0, h_vr_2, h_st_CS, h_st_S⟩ := hv
  have hx := B.exec
  have hb := B.bytes
  have hr := B.returns
  have hts := atoms_spec (ws := q_X3_readAtom_4) B.pre
  have hown : s.vm.findClass RX3 = some m.cls := findClass_of_methodNamed B.named
  have hlocks := B.notSynchronized
  subst hsz
  have hD := hD0.self (sz := s.heap.size)
  generalize hAe : va_A (wd_1ad0248d h0 h1 h3 v0 h1 h2 v1 v2 v3 v4 h2 g0 f5 h3 g1 f6) s.heap.size = A at hD h_st_CS h_st_S ⊢
  have hA : ∀ q : Nat, s.heap.size ≤ q → A q := fun q h => by rw [← hAe]; exact Or.inr h
  have hS : va_S A s.heap s.heap [] := va_S.rf
  generalize hQ : (MQ below _ _ s 0 0 A) = Q
  have hl := lv_entry ([.ref h0, .int 2]) (n := 4) (Nat.le_of_ble_eq_true rfl)
  rw [lg_entry_eq]
  generalize (lg_sl ([.ref h0, .int 2]) ++ List.replicate (4 - (lg_sl ([.ref h0, .int 2])).length) Slot.unset).toArray = ls at hl ⊢
  have hl : lv_has ls 4 [(0, .ref h0), (1, .int 2)] := hl
  obtain ⟨H, hH⟩ : ∃ H : Heap, H = s.heap := ⟨_, rfl⟩
  obtain ⟨locs, hlocs⟩ : ∃ y : List Loc, y = [] := ⟨_, rfl⟩
  have hS : va_S A s.heap H locs := by rw [hH, hlocs]; exact va_S.rf
  have hP : va_P (dC, dI) vwCl (wd_1ad0248d h0 h1 h3 v0 h1 h2 v1 v2 v3 v4 h2 g0 f5 h3 g1 f6) H := by rw [hH]; exact hP
  rw [← hH, ← hlocs]
  refine lv_aload_n hx hb dX3_readAtom_0 rfl (lv_at hl 0 rfl) ?_
  refine va_get (D := (dC, dI)) (ci := 3) (v := .ref h1) (C := RX3) (T := TX3) (N := 3) hx hb hts (fun _ h => List.mem_cons_of_mem _ (List.mem_append_left _ (List.mem_append_right _ h))) hown hK hP 0 rfl rfl 0 (by decide) (hts (.fieldLink RX3 19 "LeftArguments$LawReader" "tape" "LLeftArguments$Tape;") (List.mem_cons_of_mem _ (List.mem_append_left _ (List.mem_append_left _ (List.mem_of_getElem? (i := 0) rfl))))) (fun _ h9 => h9) rfl dX3_readAtom_1 ?_
  have hPc := hP.sub (ws' := (wd_82cdd16b h1 h2 v1 v2 v3 v4 h2 g0 f5)) [1, 2] rfl
  have hDc := hD.sub (ws' := (wd_82cdd16b h1 h2 v1 v2 v3 v4 h2 g0 f5)) [1, 2] (by decide) rfl
  have hKc := hK.sub (tys' := [(g0, .int)]) [0] rfl
  have hFc := va_free (wc := (wd_82cdd16b h1 h2 v1 v2 v3 v4 h2 g0 f5)) hD hS hA [1, 2] rfl
  refine va_calli (va_runV (As := []) (rest := []) ⟨hx, hb, hml, hown, hts⟩ (k_X10_next l dC dI h1 h2 v1 v2 v3 v4 g0 f5 ⟨by first | omega | decide, by first | omega | decide⟩ H.size) (cwV 0 hts g_X3_readAtom_4_0 rfl rfl rfl (by decide +kernel) ⟨Nat.le_of_ble_eq_true rfl, Nat.le_of_ble_eq_true rfl⟩) ⟨fun a U g mk q => by obtain ⟨q0, q1, qP, qK, qD⟩ := q; exact ⟨q0, q1, qP, va_K.moved (u := U) (U := U.calling g mk a) (Vm.Alike.refl U.vm) qK, qD⟩, va_recv hKc hPc (ci := 10) (q0 := 0) rfl rfl, fun U hU hW => ⟨rfl, by rw [hU], by rw [hU]; exact hPc, va_K.moved hW.alike hKc, hDc.weaken (fun _ _ _ _ => trivial)⟩⟩ rfl rfl hl.1 rfl (lv_room (Nat.le_of_ble_eq_true rfl)) dX3_readAtom_4 ⟨Nat.le_of_ble_eq_true rfl, Nat.le_of_ble_eq_true rfl⟩) hS (fun q _ h => hFc q h) hFc (fun ra1 u t H1 locs ht hvm hwra1 hB hz1 hk1 hS => ?_)
  obtain ⟨x2, hP1, hK1, hD1⟩ := hB
  rw [ht] at hP1
  obtain ⟨hP, hD⟩ := va_join (wr := (wd_b958b9da h0 h1 h3 v0 h3 g1 f6)) (w1 := (wd_82cdd16b h1 h2 v1 x2 v3 v4 h2 g0 f5)) hP hD [1, 2] [0, 3] rfl rfl (by decide) (by decide) hk1 hFc hP1 hD1
  generalize H1 = H at hP hS ⊢
  have hP := hP.sub (ws' := (wd_1ad0248d h0 h1 h3 v0 h1 h2 v1 x2 v3 v4 h2 g0 f5 h3 g1 f6)) [0, 2, 3, 1] rfl
  have hD := hD.sub (ws' := (wd_1ad0248d h0 h1 h3 v0 h1 h2 v1 x2 v3 v4 h2 g0 f5 h3 g1 f6)) [0, 2, 3, 1] (by decide) rfl
  have hP : va_P (dC, dI) vwCl (wd_1ad0248d h0 h1 h3 v0 h1 h2 v1 x2 v3 v4 h2 g0 f5 h3 g1 f6) H := hP
  have hD : va_D A (wd_1ad0248d h0 h1 h3 v0 h1 h2 v1 x2 v3 v4 h2 g0 f5 h3 g1 f6) := hD
  refine lv_istore_n (lv' := [(2, .int ra1), (0, .ref h0), (1, .int 2)]) hx hb dX3_readAtom_7 rfl hl (by decide) rfl (fun ls hl => ?_)
  refine lv_iload_n hx hb dX3_readAtom_8 rfl (lv_at hl 0 rfl) ?_
  refine lv_bipush (v := 91) hx hb dX3_readAtom_9 (by decide) ?_
  refine lv_icmp_ne (tgt := 55) hx hb dX3_readAtom_11 (by decide) (fun c3 => ?_) (fun c3 => ?_)
  · skip
    have fc3 : ¬ (ra1.toInt = 91) := fun h9 => c3 (Int32.toInt_inj.mp h9)
    refine lv_iload_n hx hb dX3_readAtom_55 rfl (lv_at hl 0 rfl) ?_
    have hPc := hP.sub (ws' := []) [] rfl
    have hDc := hD.sub (ws' := []) [] (by decide) rfl
    have hKc := hK.sub (tys' := []) [] rfl
    have hFc := va_free (wc := []) hD hS hA [] rfl
    refine va_calli (va_runS (As := [.int ra1]) (rest := []) ⟨hx, hb, hml, hown, hts⟩ (k_X10_isDigit l dC dI ra1  H.size) (va_cwS 1 hts g_X3_readAtom_4_1 rfl rfl rfl (by decide +kernel) ⟨Nat.le_of_ble_eq_true rfl, Nat.le_of_ble_eq_true rfl⟩) ⟨fun a U g mk q => by obtain ⟨q0, q1, qP, qK, qD⟩ := q; exact ⟨q0, q1, qP, va_K.moved (u := U) (U := U.calling g mk a) (Vm.Alike.refl U.vm) qK, qD⟩, fun U hU hW => ⟨rfl, by rw [hU], by rw [hU]; exact hPc, va_K.moved hW.alike hKc, hDc.weaken (fun _ _ _ _ => trivial)⟩⟩ rfl rfl hl.1 rfl (lv_room (Nat.le_of_ble_eq_true rfl)) dX3_readAtom_56 ⟨Nat.le_of_ble_eq_true rfl, Nat.le_of_ble_eq_true rfl⟩) hS (fun q _ h => hFc q h) hFc (fun ra4 u t H1 locs ht hvm hwra4 hB hz1 hk1 hS => ?_)
    obtain ⟨hP1, hK1, hD1⟩ := hB
    rw [ht] at hP1
    obtain ⟨hP, hD⟩ := va_join (wr := (wd_1ad0248d h0 h1 h3 v0 h1 h2 v1 x2 v3 v4 h2 g0 f5 h3 g1 f6)) (w1 := []) hP hD [] [0, 1, 2, 3] rfl rfl (by decide) (by decide) hk1 hFc hP1 hD1
    generalize H1 = H at hP hS ⊢
    have hP : va_P (dC, dI) vwCl (wd_1ad0248d h0 h1 h3 v0 h1 h2 v1 x2 v3 v4 h2 g0 f5 h3 g1 f6) H := hP
    have hD : va_D A (wd_1ad0248d h0 h1 h3 v0 h1 h2 v1 x2 v3 v4 h2 g0 f5 h3 g1 f6) := hD
    obtain ⟨wa_ra4, wb_ra4⟩ := hwra4
    have wa_ra4 : 0 ≤ ra4.toInt := wa_ra4
    have wb_ra4 : ra4.toInt ≤ 1 := wb_ra4
    refine lv_if_eq (tgt := 89) hx hb dX3_readAtom_59 (by decide) (fun c5 => ?_) (fun c5 => ?_)
    · skip
      have fc5 : ra4.toInt = 0 := congrArg Int32.toInt c5
      refine lv_iload_n hx hb dX3_readAtom_89 rfl (lv_at hl 0 rfl) ?_
      refine lv_iconst (v := (-1)) hx hb dX3_readAtom_90 (by decide) ?_
      have hJ7 : ∀ (x6 : Int32) (H : Heap) (locs : List Loc) (ls : Array Slot), -1 ≤ x6.toInt → x6.toInt ≤ 5 → va_P (dC, dI) vwCl (wd_1ad0248d h0 h1 h3 v0 h1 h2 v1 x2 v3 v4 h2 g0 f5 h3 g1 f6) H → va_D A (wd_1ad0248d h0 h1 h3 v0 h1 h2 v1 x2 v3 v4 h2 g0 f5 h3 g1 f6) → va_S A s.heap H locs → lv_has ls 4 [(2, .int ra1), (0, .ref h0), (1, .int 2)] → W p l e ({ frames := 16, cells := 0, slots := 0, locals := 367 }) s m ([.ref h0, .int 2] : List Value).toArray below meth c H locs 0 0 Q (F0 m 105 ls [.int x6]) := by
        intro x6 H locs ls qa_x6 qb_x6 hP hD hS hl
        refine lv_istore_n (lv' := [(3, .int x6), (2, .int ra1), (0, .ref h0), (1, .int 2)]) hx hb dX3_readAtom_105 rfl hl (by decide) rfl (fun ls hl => ?_)
        refine lv_iload_n hx hb dX3_readAtom_106 rfl (lv_at hl 0 rfl) ?_
        refine lv_if_ge (tgt := 118) hx hb dX3_readAtom_107 (by decide) (fun c8 => ?_) (fun c8 => ?_)
        · skip
          have fc8 : 0 ≤ x6.toInt := Int32.le_iff_toInt_le.mp c8
          refine lv_aload_n hx hb dX3_readAtom_118 rfl (lv_at hl 2 rfl) ?_
          refine va_get (D := (dC, dI)) (ci := 3) (v := .ref h1) (C := RX3) (T := TX3) (N := 3) hx hb hts (fun _ h => List.mem_cons_of_mem _ (List.mem_append_left _ (List.mem_append_right _ h))) hown hK hP 0 rfl rfl 0 (by decide) (hts (.fieldLink RX3 19 "LeftArguments$LawReader" "tape" "LLeftArguments$Tape;") (List.mem_cons_of_mem _ (List.mem_append_left _ (List.mem_append_left _ (List.mem_of_getElem? (i := 0) rfl))))) (fun _ h9 => h9) rfl dX3_readAtom_119 ?_
          have hPc := hP.sub (ws' := (wd_09b0abee h1 h2 v1 x2 v3 v4)) [1] rfl
          have hDc := hD.sub (ws' := (wd_09b0abee h1 h2 v1 x2 v3 v4)) [1] (by decide) rfl
          have hKc := hK.sub (tys' := []) [] rfl
          have hFc := va_free (wc := (wd_09b0abee h1 h2 v1 x2 v3 v4)) hD hS hA [1] rfl
          refine va_callv (va_runV (As := []) (rest := []) ⟨hx, hb, hml, hown, hts⟩ (k_X10_step l dC dI h1 h2 v1 x2 v3 v4 ⟨by first | omega | decide, by first | omega | decide⟩ H.size) (cwV 0 hts g_X3_readAtom_4_2 rfl rfl rfl (by decide +kernel) ⟨Nat.le_of_ble_eq_true rfl, Nat.le_of_ble_eq_true rfl⟩) ⟨fun a U g mk q => by obtain ⟨q0, q1, qP, qK, qD⟩ := q; exact ⟨q0, q1, qP, va_K.moved (u := U) (U := U.calling g mk a) (Vm.Alike.refl U.vm) qK, qD⟩, va_recv hKc hPc (ci := 10) (q0 := 0) rfl rfl, fun U hU hW => ⟨rfl, by rw [hU], by rw [hU]; exact hPc, va_K.moved hW.alike hKc, hDc.weaken (fun _ _ _ _ => trivial)⟩⟩ rfl rfl hl.1 rfl (lv_room (Nat.le_of_ble_eq_true rfl)) dX3_readAtom_122 ⟨Nat.le_of_ble_eq_true rfl, Nat.le_of_ble_eq_true rfl⟩) hS (fun q _ h => hFc q h) hFc (fun u t H1 locs ht hvm hwra9 hB hz1 hk1 hS => ?_)
          obtain ⟨x10, hP1, hK1, hD1⟩ := hB
          rw [ht] at hP1
          obtain ⟨hP, hD⟩ := va_join (wr := (wd_6b0d8e05 h0 h1 h3 v0 h2 g0 f5 h3 g1 f6)) (w1 := (wd_09b0abee h1 h2 v1 x10 v3 v4)) hP hD [1] [0, 2, 3] rfl rfl (by decide) (by decide) hk1 hFc hP1 hD1
          generalize H1 = H at hP hS ⊢
          have hP := hP.sub (ws' := (wd_1ad0248d h0 h1 h3 v0 h1 h2 v1 x10 v3 v4 h2 g0 f5 h3 g1 f6)) [0, 3, 1, 2] rfl
          have hD := hD.sub (ws' := (wd_1ad0248d h0 h1 h3 v0 h1 h2 v1 x10 v3 v4 h2 g0 f5 h3 g1 f6)) [0, 3, 1, 2] (by decide) rfl
          have hP : va_P (dC, dI) vwCl (wd_1ad0248d h0 h1 h3 v0 h1 h2 v1 x10 v3 v4 h2 g0 f5 h3 g1 f6) H := hP
          have hD : va_D A (wd_1ad0248d h0 h1 h3 v0 h1 h2 v1 x10 v3 v4 h2 g0 f5 h3 g1 f6) := hD
          refine lv_aload_n hx hb dX3_readAtom_125 rfl (lv_at hl 2 rfl) ?_
          refine lv_iconst (v := 1) hx hb dX3_readAtom_126 (by decide) ?_
          refine lv_iload_n hx hb dX3_readAtom_127 rfl (lv_at hl 0 rfl) ?_
          have hPc := hP.sub (ws' := (wd_b958b9da h0 h1 h3 v0 h3 g1 f6)) [0, 3] rfl
          have hDc := hD.sub (ws' := (wd_b958b9da h0 h1 h3 v0 h3 g1 f6)) [0, 3] (by decide) rfl
          have hKc := hK.sub (tys' := [(g1, .int)]) [1] rfl
          have hFc := va_free (wc := (wd_b958b9da h0 h1 h3 v0 h3 g1 f6)) hD hS hA [0, 3] rfl
          refine va_callv (va_runV (As := [.int 1, .int x6]) (rest := []) ⟨hx, hb, hml, hown, hts⟩ (k_X3_write l dC dI h0 h3 h1 v0 g1 f6 1 x6 ⟨by first | omega | decide, by first | omega | decide⟩ H.size) (cwV 2 hts g_X3_readAtom_4_3 rfl rfl rfl (by decide +kernel) ⟨Nat.le_of_ble_eq_true rfl, Nat.le_of_ble_eq_true rfl⟩) ⟨fun a U g mk q => by obtain ⟨q0, q1, qP, qK, qD⟩ := q; exact ⟨q0, q1, qP, va_K.moved (u := U) (U := U.calling g mk a) (Vm.Alike.refl U.vm) qK, qD⟩, va_recv hKc hPc (ci := 3) (q0 := 0) rfl rfl, fun U hU hW => ⟨rfl, by rw [hU], by rw [hU]; exact hPc, va_K.moved hW.alike hKc, hDc.weaken (fun _ _ _ _ => trivial)⟩⟩ rfl rfl hl.1 rfl (lv_room (Nat.le_of_ble_eq_true rfl)) dX3_readAtom_128 ⟨Nat.le_of_ble_eq_true rfl, Nat.le_of_ble_eq_true rfl⟩) hS (fun q _ h => hFc q h) hFc (fun u t H1 locs ht hvm hwra11 hB hz1 hk1 hS => ?_)
          obtain ⟨x12, fn13, oa_x12, ob_x12, hP1, hK1, hD1⟩ := hB
          rw [ht] at hP1
          obtain ⟨hP, hD⟩ := va_join (wr := (wd_82cdd16b h1 h2 v1 x10 v3 v4 h2 g0 f5)) (w1 := (wd_b958b9da h0 h1 h3 x12 h3 g1 fn13)) hP hD [0, 3] [1, 2] rfl rfl (by decide) (by decide) hk1 hFc hP1 hD1
          generalize H1 = H at hP hS ⊢
          have hP := hP.sub (ws' := (wd_1ad0248d h0 h1 h3 x12 h1 h2 v1 x10 v3 v4 h2 g0 f5 h3 g1 fn13)) [2, 0, 1, 3] rfl
          have hD := hD.sub (ws' := (wd_1ad0248d h0 h1 h3 x12 h1 h2 v1 x10 v3 v4 h2 g0 f5 h3 g1 fn13)) [2, 0, 1, 3] (by decide) rfl
          have hP : va_P (dC, dI) vwCl (wd_1ad0248d h0 h1 h3 x12 h1 h2 v1 x10 v3 v4 h2 g0 f5 h3 g1 fn13) H := hP
          have hD : va_D A (wd_1ad0248d h0 h1 h3 x12 h1 h2 v1 x10 v3 v4 h2 g0 f5 h3 g1 fn13) := hD
          refine lv_iconst (v := 1) hx hb dX3_readAtom_131 (by decide) ?_
          subst hQ
          have hP9 := hP.sub (ws' := (wd_1ad0248d h0 h1 h3 x12 h1 h2 v1 x10 v3 v4 h2 g0 f5 h3 g1 fn13)) [0, 1, 2, 3] rfl
          have hD9 := hD.sub (ws' := (wd_1ad0248d h0 h1 h3 x12 h1 h2 v1 x10 v3 v4 h2 g0 f5 h3 g1 fn13)) [0, 1, 2, 3] (by decide) rfl
          have hK9 := hK.sub (tys' := []) [] rfl
          exact W.zret (v := 1) hx hb hr rfl (fun t ht hW => ⟨⟨1, (), rfl, ⟨by first | omega | decide, by first | omega | decide⟩, x12, x10, v3, v4, fn13, by first | omega | decide, by first | omega | decide, by rw [ht]; exact hP9, va_K.moved hW.alike hK9, hD9⟩, hS.F ht⟩) hS.2.2 dX3_readAtom_132
        · skip
          have fc8 : ¬ (0 ≤ x6.toInt) := fun h9 => c8 (Int32.le_iff_toInt_le.mpr h9)
          refine lv_aload_n hx hb dX3_readAtom_110 rfl (lv_at hl 2 rfl) ?_
          refine va_get (D := (dC, dI)) (ci := 3) (v := .ref h1) (C := RX3) (T := TX3) (N := 3) hx hb hts (fun _ h => List.mem_cons_of_mem _ (List.mem_append_left _ (List.mem_append_right _ h))) hown hK hP 0 rfl rfl 0 (by decide) (hts (.fieldLink RX3 19 "LeftArguments$LawReader" "tape" "LLeftArguments$Tape;") (List.mem_cons_of_mem _ (List.mem_append_left _ (List.mem_append_left _ (List.mem_of_getElem? (i := 0) rfl))))) (fun _ h9 => h9) rfl dX3_readAtom_111 ?_
          have hPc := hP.sub (ws' := (wd_09b0abee h1 h2 v1 x2 v3 v4)) [1] rfl
          have hDc := hD.sub (ws' := (wd_09b0abee h1 h2 v1 x2 v3 v4)) [1] (by decide) rfl
          have hKc := hK.sub (tys' := []) [] rfl
          have hFc := va_free (wc := (wd_09b0abee h1 h2 v1 x2 v3 v4)) hD hS hA [1] rfl
          refine va_calli (va_runV (As := []) (rest := []) ⟨hx, hb, hml, hown, hts⟩ (k_X10_wrongHere l dC dI h1 h2 v1 x2 v3 v4 ⟨by first | omega | decide, by first | omega | decide⟩ H.size) (cwV 0 hts g_X3_readAtom_4_4 rfl rfl rfl (by decide +kernel) ⟨Nat.le_of_ble_eq_true rfl, Nat.le_of_ble_eq_true rfl⟩) ⟨fun a U g mk q => by obtain ⟨q0, q1, qP, qK, qD⟩ := q; exact ⟨q0, q1, qP, va_K.moved (u := U) (U := U.calling g mk a) (Vm.Alike.refl U.vm) qK, qD⟩, va_recv hKc hPc (ci := 10) (q0 := 0) rfl rfl, fun U hU hW => ⟨rfl, by rw [hU], by rw [hU]; exact hPc, va_K.moved hW.alike hKc, hDc.weaken (fun _ _ _ _ => trivial)⟩⟩ rfl rfl hl.1 rfl (lv_room (Nat.le_of_ble_eq_true rfl)) dX3_readAtom_114 ⟨Nat.le_of_ble_eq_true rfl, Nat.le_of_ble_eq_true rfl⟩) hS (fun q _ h => hFc q h) hFc (fun ra14 u t H1 locs ht hvm hwra14 hB hz1 hk1 hS => ?_)
          obtain ⟨x15, hP1, hK1, hD1⟩ := hB
          rw [ht] at hP1
          obtain ⟨hP, hD⟩ := va_join (wr := (wd_6b0d8e05 h0 h1 h3 v0 h2 g0 f5 h3 g1 f6)) (w1 := (wd_09b0abee h1 h2 v1 x2 x15 v4)) hP hD [1] [0, 2, 3] rfl rfl (by decide) (by decide) hk1 hFc hP1 hD1
          generalize H1 = H at hP hS ⊢
          have hP := hP.sub (ws' := (wd_1ad0248d h0 h1 h3 v0 h1 h2 v1 x2 x15 v4 h2 g0 f5 h3 g1 f6)) [0, 3, 1, 2] rfl
          have hD := hD.sub (ws' := (wd_1ad0248d h0 h1 h3 v0 h1 h2 v1 x2 x15 v4 h2 g0 f5 h3 g1 f6)) [0, 3, 1, 2] (by decide) rfl
          have hP : va_P (dC, dI) vwCl (wd_1ad0248d h0 h1 h3 v0 h1 h2 v1 x2 x15 v4 h2 g0 f5 h3 g1 f6) H := hP
          have hD : va_D A (wd_1ad0248d h0 h1 h3 v0 h1 h2 v1 x2 x15 v4 h2 g0 f5 h3 g1 f6) := hD
          obtain ⟨wa_ra14, wb_ra14⟩ := hwra14
          have wa_ra14 : 0 ≤ ra14.toInt := wa_ra14
          have wb_ra14 : ra14.toInt ≤ 0 := wb_ra14
          subst hQ
          have hP9 := hP.sub (ws' := (wd_1ad0248d h0 h1 h3 v0 h1 h2 v1 x2 x15 v4 h2 g0 f5 h3 g1 f6)) [0, 1, 2, 3] rfl
          have hD9 := hD.sub (ws' := (wd_1ad0248d h0 h1 h3 v0 h1 h2 v1 x2 x15 v4 h2 g0 f5 h3 g1 f6)) [0, 1, 2, 3] (by decide) rfl
          have hK9 := hK.sub (tys' := []) [] rfl
          exact W.zret (v := ra14) hx hb hr (pv_nz (by omega) (by omega)) (fun t ht hW => ⟨⟨ra14, (), rfl, ⟨by first | omega | decide, by first | omega | decide⟩, v0, x2, x15, v4, f6, by first | omega | decide, by first | omega | decide, by rw [ht]; exact hP9, va_K.moved hW.alike hK9, hD9⟩, hS.F ht⟩) hS.2.2 dX3_readAtom_117
      refine lv_icmp_ne (tgt := 98) hx hb dX3_readAtom_91 (by decide) (fun c16 => ?_) (fun c16 => ?_)
      · skip
        have fc16 : ¬ (ra1.toInt = (-1)) := fun h9 => c16 (Int32.toInt_inj.mp h9)
        refine va_ldcS hx hb hown h_vr_2 dX3_readAtom_98 ?_
        refine lv_iload_n hx hb dX3_readAtom_100 rfl (lv_at hl 0 rfl) ?_
        obtain ⟨t17, et17⟩ : ∃ z : Int32, z = ((ra1 : Int32).toUInt32 % 65536).toInt32 := ⟨_, rfl⟩
        refine lv_i2c (v := t17) hx hb dX3_readAtom_101 (by rw [et17]) ?_
        have hPc := hP.sub (ws' := []) [] rfl
        have hDc := hD.sub (ws' := []) [] (by decide) rfl
        have hKc := hK.sub (tys' := []) [] rfl
        have hFc := va_free (wc := []) hD hS hA [] rfl
        refine va_calli (va_runV (As := [.int t17]) (rest := []) ⟨hx, hb, hml, hown, hts⟩ (k_J0_indexOf_0f7a4 l dC dI adK adV t17  H.size) (cwV 1 hts g_X3_readAtom_4_5 rfl rfl rfl (by decide +kernel) ⟨Nat.le_of_ble_eq_true rfl, Nat.le_of_ble_eq_true rfl⟩) ⟨fun a U g mk q => by obtain ⟨q0, q1, qP, qK, qD, n0, n1⟩ := q; exact ⟨q0, q1, qP, va_K.moved (u := U) (U := U.calling g mk a) (Vm.Alike.refl U.vm) qK, qD, va_Z.moved (Vm.Alike.refl _) n0, vk_S.moved (Vm.Alike.refl _) n1⟩, vk_recv h_st_S (by decide : 2 < 3) hS, fun U hU hW => ⟨rfl, by rw [hU], by rw [hU]; exact hPc, va_K.moved hW.alike hKc, hDc.weaken (fun _ _ _ _ => trivial), (by rw [hU]; exact (va_Z.moved hW.alike (va_Z.kept h_st_CS hS.2.1)).narrow hFc), (by rw [hU]; exact (vk_S.moved hW.alike (vk_S.kept h_st_S hS.2.1)).narrow hFc)⟩⟩ rfl rfl hl.1 rfl (lv_room (Nat.le_of_ble_eq_true rfl)) dX3_readAtom_102 ⟨Nat.le_of_ble_eq_true rfl, Nat.le_of_ble_eq_true rfl⟩) hS (fun q _ h => hFc q h) hFc (fun ra18 u t H1 locs ht hvm hwra18 hB hz1 hk1 hS => ?_)
        obtain ⟨hP1, hK1, hD1⟩ := hB
        rw [ht] at hP1
        obtain ⟨hP, hD⟩ := va_join (wr := (wd_1ad0248d h0 h1 h3 v0 h1 h2 v1 x2 v3 v4 h2 g0 f5 h3 g1 f6)) (w1 := []) hP hD [] [0, 1, 2, 3] rfl rfl (by decide) (by decide) hk1 hFc hP1 hD1
        generalize H1 = H at hP hS ⊢
        have hP : va_P (dC, dI) vwCl (wd_1ad0248d h0 h1 h3 v0 h1 h2 v1 x2 v3 v4 h2 g0 f5 h3 g1 f6) H := hP
        have hD : va_D A (wd_1ad0248d h0 h1 h3 v0 h1 h2 v1 x2 v3 v4 h2 g0 f5 h3 g1 f6) := hD
        obtain ⟨wa_ra18, wb_ra18⟩ := hwra18
        have wa_ra18 : -1 ≤ ra18.toInt := wa_ra18
        have wb_ra18 : ra18.toInt ≤ 5 := wb_ra18
        exact hJ7 ra18 H locs ls (by first | omega | decide) (by first | omega | decide) hP hD hS (lv_sub hl [0, 1, 2] rfl)
      · skip
        have fc16 : ra1.toInt = (-1) := congrArg Int32.toInt c16
        refine lv_iconst (v := (-1)) hx hb dX3_readAtom_94 (by decide) ?_
        refine lv_goto (tgt := 105) hx hb dX3_readAtom_95 (by decide) ?_
        exact hJ7 ((-1)) H locs ls (by first | omega | decide) (by first | omega | decide) hP hD hS (lv_sub hl [0, 1, 2] rfl)
    · skip
      have fc5 : ¬ (ra4.toInt = 0) := fun h9 => c5 (Int32.toInt_inj.mp h9)
      refine lv_aload_n hx hb dX3_readAtom_62 rfl (lv_at hl 1 rfl) ?_
      refine va_get (D := (dC, dI)) (ci := 3) (v := .ref h1) (C := RX3) (T := TX3) (N := 3) hx hb hts (fun _ h => List.mem_cons_of_mem _ (List.mem_append_left _ (List.mem_append_right _ h))) hown hK hP 0 rfl rfl 0 (by decide) (hts (.fieldLink RX3 19 "LeftArguments$LawReader" "tape" "LLeftArguments$Tape;") (List.mem_cons_of_mem _ (List.mem_append_left _ (List.mem_append_left _ (List.mem_of_getElem? (i := 0) rfl))))) (fun _ h9 => h9) rfl dX3_readAtom_63 ?_
      refine lv_iconst (v := 4) hx hb dX3_readAtom_66 (by decide) ?_
      have hPc := hP.sub (ws' := (wd_82cdd16b h1 h2 v1 x2 v3 v4 h2 g0 f5)) [1, 2] rfl
      have hDc := hD.sub (ws' := (wd_82cdd16b h1 h2 v1 x2 v3 v4 h2 g0 f5)) [1, 2] (by decide) rfl
      have hKc := hK.sub (tys' := [(g0, .int)]) [0] rfl
      have hFc := va_free (wc := (wd_82cdd16b h1 h2 v1 x2 v3 v4 h2 g0 f5)) hD hS hA [1, 2] rfl
      refine va_calli (va_runV (As := [.int 4]) (rest := []) ⟨hx, hb, hml, hown, hts⟩ (k_X10_takeNumber l dC dI h1 h2 v1 x2 v3 v4 g0 f5 4 ⟨by first | omega | decide, by first | omega | decide⟩ H.size) (cwV 1 hts g_X3_readAtom_4_6 rfl rfl rfl (by decide +kernel) ⟨Nat.le_of_ble_eq_true rfl, Nat.le_of_ble_eq_true rfl⟩) ⟨fun a U g mk q => by obtain ⟨q0, q1, qP, qK, qD⟩ := q; exact ⟨q0, q1, qP, va_K.moved (u := U) (U := U.calling g mk a) (Vm.Alike.refl U.vm) qK, qD⟩, va_recv hKc hPc (ci := 10) (q0 := 0) rfl rfl, fun U hU hW => ⟨rfl, by rw [hU], by rw [hU]; exact hPc, va_K.moved hW.alike hKc, hDc.weaken (fun _ _ _ _ => trivial)⟩⟩ rfl rfl hl.1 rfl (lv_room (Nat.le_of_ble_eq_true rfl)) dX3_readAtom_67 ⟨Nat.le_of_ble_eq_true rfl, Nat.le_of_ble_eq_true rfl⟩) hS (fun q _ h => hFc q h) hFc (fun ra19 u t H1 locs ht hvm hwra19 hB hz1 hk1 hS => ?_)
      obtain ⟨x20, x21, x22, hP1, hK1, hD1⟩ := hB
      rw [ht] at hP1
      obtain ⟨hP, hD⟩ := va_join (wr := (wd_b958b9da h0 h1 h3 v0 h3 g1 f6)) (w1 := (wd_82cdd16b h1 h2 v1 x20 x21 x22 h2 g0 f5)) hP hD [1, 2] [0, 3] rfl rfl (by decide) (by decide) hk1 hFc hP1 hD1
      generalize H1 = H at hP hS ⊢
      have hP := hP.sub (ws' := (wd_1ad0248d h0 h1 h3 v0 h1 h2 v1 x20 x21 x22 h2 g0 f5 h3 g1 f6)) [0, 2, 3, 1] rfl
      have hD := hD.sub (ws' := (wd_1ad0248d h0 h1 h3 v0 h1 h2 v1 x20 x21 x22 h2 g0 f5 h3 g1 f6)) [0, 2, 3, 1] (by decide) rfl
      have hP : va_P (dC, dI) vwCl (wd_1ad0248d h0 h1 h3 v0 h1 h2 v1 x20 x21 x22 h2 g0 f5 h3 g1 f6) H := hP
      have hD : va_D A (wd_1ad0248d h0 h1 h3 v0 h1 h2 v1 x20 x21 x22 h2 g0 f5 h3 g1 f6) := hD
      obtain ⟨wa_ra19, wb_ra19⟩ := hwra19
      have wa_ra19 : 0 ≤ ra19.toInt := wa_ra19
      have wb_ra19 : ra19.toInt ≤ 1 := wb_ra19
      refine lv_if_ne (tgt := 75) hx hb dX3_readAtom_70 (by decide) (fun c23 => ?_) (fun c23 => ?_)
      · skip
        have fc23 : ¬ (ra19.toInt = 0) := fun h9 => c23 (Int32.toInt_inj.mp h9)
        refine lv_aload_n hx hb dX3_readAtom_75 rfl (lv_at hl 1 rfl) ?_
        refine lv_iconst (v := 0) hx hb dX3_readAtom_76 (by decide) ?_
        refine lv_aload_n hx hb dX3_readAtom_77 rfl (lv_at hl 1 rfl) ?_
        refine va_get (D := (dC, dI)) (ci := 3) (v := .ref h1) (C := RX3) (T := TX3) (N := 3) hx hb hts (fun _ h => List.mem_cons_of_mem _ (List.mem_append_left _ (List.mem_append_right _ h))) hown hK hP 0 rfl rfl 0 (by decide) (hts (.fieldLink RX3 19 "LeftArguments$LawReader" "tape" "LLeftArguments$Tape;") (List.mem_cons_of_mem _ (List.mem_append_left _ (List.mem_append_left _ (List.mem_of_getElem? (i := 0) rfl))))) (fun _ h9 => h9) rfl dX3_readAtom_78 ?_
        have hPc := hP.sub (ws' := (wd_09b0abee h1 h2 v1 x20 x21 x22)) [1] rfl
        have hDc := hD.sub (ws' := (wd_09b0abee h1 h2 v1 x20 x21 x22)) [1] (by decide) rfl
        have hKc := hK.sub (tys' := []) [] rfl
        have hFc := va_free (wc := (wd_09b0abee h1 h2 v1 x20 x21 x22)) hD hS hA [1] rfl
        refine va_calli (va_runV (As := []) (rest := [.int 0, .ref h0]) ⟨hx, hb, hml, hown, hts⟩ (k_X10_number l dC dI h1 h2 v1 x20 x21 x22 ⟨by first | omega | decide, by first | omega | decide⟩ H.size) (cwV 0 hts g_X3_readAtom_4_7 rfl rfl rfl (by decide +kernel) ⟨Nat.le_of_ble_eq_true rfl, Nat.le_of_ble_eq_true rfl⟩) ⟨fun a U g mk q => by obtain ⟨q0, q1, qP, qK, qD⟩ := q; exact ⟨q0, q1, qP, va_K.moved (u := U) (U := U.calling g mk a) (Vm.Alike.refl U.vm) qK, qD⟩, va_recv hKc hPc (ci := 10) (q0 := 0) rfl rfl, fun U hU hW => ⟨rfl, by rw [hU], by rw [hU]; exact hPc, va_K.moved hW.alike hKc, hDc.weaken (fun _ _ _ _ => trivial)⟩⟩ rfl rfl hl.1 rfl (lv_room (Nat.le_of_ble_eq_true rfl)) dX3_readAtom_81 ⟨Nat.le_of_ble_eq_true rfl, Nat.le_of_ble_eq_true rfl⟩) hS (fun q _ h => hFc q h) hFc (fun ra24 u t H1 locs ht hvm hwra24 hB hz1 hk1 hS => ?_)
        obtain ⟨hP1, hK1, hD1⟩ := hB
        rw [ht] at hP1
        obtain ⟨hP, hD⟩ := va_join (wr := (wd_6b0d8e05 h0 h1 h3 v0 h2 g0 f5 h3 g1 f6)) (w1 := (wd_09b0abee h1 h2 v1 x20 x21 x22)) hP hD [1] [0, 2, 3] rfl rfl (by decide) (by decide) hk1 hFc hP1 hD1
        generalize H1 = H at hP hS ⊢
        have hP := hP.sub (ws' := (wd_1ad0248d h0 h1 h3 v0 h1 h2 v1 x20 x21 x22 h2 g0 f5 h3 g1 f6)) [0, 3, 1, 2] rfl
        have hD := hD.sub (ws' := (wd_1ad0248d h0 h1 h3 v0 h1 h2 v1 x20 x21 x22 h2 g0 f5 h3 g1 f6)) [0, 3, 1, 2] (by decide) rfl
        have hP : va_P (dC, dI) vwCl (wd_1ad0248d h0 h1 h3 v0 h1 h2 v1 x20 x21 x22 h2 g0 f5 h3 g1 f6) H := hP
        have hD : va_D A (wd_1ad0248d h0 h1 h3 v0 h1 h2 v1 x20 x21 x22 h2 g0 f5 h3 g1 f6) := hD
        have hPc := hP.sub (ws' := (wd_b958b9da h0 h1 h3 v0 h3 g1 f6)) [0, 3] rfl
        have hDc := hD.sub (ws' := (wd_b958b9da h0 h1 h3 v0 h3 g1 f6)) [0, 3] (by decide) rfl
        have hKc := hK.sub (tys' := [(g1, .int)]) [1] rfl
        have hFc := va_free (wc := (wd_b958b9da h0 h1 h3 v0 h3 g1 f6)) hD hS hA [0, 3] rfl
        refine va_callv (va_runV (As := [.int 0, .int ra24]) (rest := []) ⟨hx, hb, hml, hown, hts⟩ (k_X3_write l dC dI h0 h3 h1 v0 g1 f6 0 ra24 ⟨by first | omega | decide, by first | omega | decide⟩ H.size) (cwV 2 hts g_X3_readAtom_4_3 rfl rfl rfl (by decide +kernel) ⟨Nat.le_of_ble_eq_true rfl, Nat.le_of_ble_eq_true rfl⟩) ⟨fun a U g mk q => by obtain ⟨q0, q1, qP, qK, qD⟩ := q; exact ⟨q0, q1, qP, va_K.moved (u := U) (U := U.calling g mk a) (Vm.Alike.refl U.vm) qK, qD⟩, va_recv hKc hPc (ci := 3) (q0 := 0) rfl rfl, fun U hU hW => ⟨rfl, by rw [hU], by rw [hU]; exact hPc, va_K.moved hW.alike hKc, hDc.weaken (fun _ _ _ _ => trivial)⟩⟩ rfl rfl hl.1 rfl (lv_room (Nat.le_of_ble_eq_true rfl)) dX3_readAtom_84 ⟨Nat.le_of_ble_eq_true rfl, Nat.le_of_ble_eq_true rfl⟩) hS (fun q _ h => hFc q h) hFc (fun u t H1 locs ht hvm hwra25 hB hz1 hk1 hS => ?_)
        obtain ⟨x26, fn27, oa_x26, ob_x26, hP1, hK1, hD1⟩ := hB
        rw [ht] at hP1
        obtain ⟨hP, hD⟩ := va_join (wr := (wd_82cdd16b h1 h2 v1 x20 x21 x22 h2 g0 f5)) (w1 := (wd_b958b9da h0 h1 h3 x26 h3 g1 fn27)) hP hD [0, 3] [1, 2] rfl rfl (by decide) (by decide) hk1 hFc hP1 hD1
        generalize H1 = H at hP hS ⊢
        have hP := hP.sub (ws' := (wd_1ad0248d h0 h1 h3 x26 h1 h2 v1 x20 x21 x22 h2 g0 f5 h3 g1 fn27)) [2, 0, 1, 3] rfl
        have hD := hD.sub (ws' := (wd_1ad0248d h0 h1 h3 x26 h1 h2 v1 x20 x21 x22 h2 g0 f5 h3 g1 fn27)) [2, 0, 1, 3] (by decide) rfl
        have hP : va_P (dC, dI) vwCl (wd_1ad0248d h0 h1 h3 x26 h1 h2 v1 x20 x21 x22 h2 g0 f5 h3 g1 fn27) H := hP
        have hD : va_D A (wd_1ad0248d h0 h1 h3 x26 h1 h2 v1 x20 x21 x22 h2 g0 f5 h3 g1 fn27) := hD
        refine lv_iconst (v := 1) hx hb dX3_readAtom_87 (by decide) ?_
        subst hQ
        have hP9 := hP.sub (ws' := (wd_1ad0248d h0 h1 h3 x26 h1 h2 v1 x20 x21 x22 h2 g0 f5 h3 g1 fn27)) [0, 1, 2, 3] rfl
        have hD9 := hD.sub (ws' := (wd_1ad0248d h0 h1 h3 x26 h1 h2 v1 x20 x21 x22 h2 g0 f5 h3 g1 fn27)) [0, 1, 2, 3] (by decide) rfl
        have hK9 := hK.sub (tys' := []) [] rfl
        exact W.zret (v := 1) hx hb hr rfl (fun t ht hW => ⟨⟨1, (), rfl, ⟨by first | omega | decide, by first | omega | decide⟩, x26, x20, x21, x22, fn27, by first | omega | decide, by first | omega | decide, by rw [ht]; exact hP9, va_K.moved hW.alike hK9, hD9⟩, hS.F ht⟩) hS.2.2 dX3_readAtom_88
      · skip
        have fc23 : ra19.toInt = 0 := congrArg Int32.toInt c23
        refine lv_iconst (v := 0) hx hb dX3_readAtom_73 (by decide) ?_
        subst hQ
        have hP9 := hP.sub (ws' := (wd_1ad0248d h0 h1 h3 v0 h1 h2 v1 x20 x21 x22 h2 g0 f5 h3 g1 f6)) [0, 1, 2, 3] rfl
        have hD9 := hD.sub (ws' := (wd_1ad0248d h0 h1 h3 v0 h1 h2 v1 x20 x21 x22 h2 g0 f5 h3 g1 f6)) [0, 1, 2, 3] (by decide) rfl
        have hK9 := hK.sub (tys' := []) [] rfl
        exact W.zret (v := 0) hx hb hr rfl (fun t ht hW => ⟨⟨0, (), rfl, ⟨by first | omega | decide, by first | omega | decide⟩, v0, x20, x21, x22, f6, by first | omega | decide, by first | omega | decide, by rw [ht]; exact hP9, va_K.moved hW.alike hK9, hD9⟩, hS.F ht⟩) hS.2.2 dX3_readAtom_74
  · skip
    have fc3 : ra1.toInt = 91 := congrArg Int32.toInt c3
    refine lv_iload_n hx hb dX3_readAtom_14 rfl (lv_at hl 2 rfl) ?_
    refine lv_bipush (v := 6) hx hb dX3_readAtom_15 (by decide) ?_
    refine lv_icmp_ge (tgt := 55) hx hb dX3_readAtom_17 (by decide) (fun c => absurd c (by decide)) (fun _ => ?_)
    refine lv_aload_n hx hb dX3_readAtom_20 rfl (lv_at hl 1 rfl) ?_
    refine va_get (D := (dC, dI)) (ci := 3) (v := .ref h1) (C := RX3) (T := TX3) (N := 3) hx hb hts (fun _ h => List.mem_cons_of_mem _ (List.mem_append_left _ (List.mem_append_right _ h))) hown hK hP 0 rfl rfl 0 (by decide) (hts (.fieldLink RX3 19 "LeftArguments$LawReader" "tape" "LLeftArguments$Tape;") (List.mem_cons_of_mem _ (List.mem_append_left _ (List.mem_append_left _ (List.mem_of_getElem? (i := 0) rfl))))) (fun _ h9 => h9) rfl dX3_readAtom_21 ?_
    have hPc := hP.sub (ws' := (wd_09b0abee h1 h2 v1 x2 v3 v4)) [1] rfl
    have hDc := hD.sub (ws' := (wd_09b0abee h1 h2 v1 x2 v3 v4)) [1] (by decide) rfl
    have hKc := hK.sub (tys' := []) [] rfl
    have hFc := va_free (wc := (wd_09b0abee h1 h2 v1 x2 v3 v4)) hD hS hA [1] rfl
    refine va_callv (va_runV (As := []) (rest := []) ⟨hx, hb, hml, hown, hts⟩ (k_X10_step l dC dI h1 h2 v1 x2 v3 v4 ⟨by first | omega | decide, by first | omega | decide⟩ H.size) (cwV 0 hts g_X3_readAtom_4_2 rfl rfl rfl (by decide +kernel) ⟨Nat.le_of_ble_eq_true rfl, Nat.le_of_ble_eq_true rfl⟩) ⟨fun a U g mk q => by obtain ⟨q0, q1, qP, qK, qD⟩ := q; exact ⟨q0, q1, qP, va_K.moved (u := U) (U := U.calling g mk a) (Vm.Alike.refl U.vm) qK, qD⟩, va_recv hKc hPc (ci := 10) (q0 := 0) rfl rfl, fun U hU hW => ⟨rfl, by rw [hU], by rw [hU]; exact hPc, va_K.moved hW.alike hKc, hDc.weaken (fun _ _ _ _ => trivial)⟩⟩ rfl rfl hl.1 rfl (lv_room (Nat.le_of_ble_eq_true rfl)) dX3_readAtom_24 ⟨Nat.le_of_ble_eq_true rfl, Nat.le_of_ble_eq_true rfl⟩) hS (fun q _ h => hFc q h) hFc (fun u t H1 locs ht hvm hwra28 hB hz1 hk1 hS => ?_)
    obtain ⟨x29, hP1, hK1, hD1⟩ := hB
    rw [ht] at hP1
    obtain ⟨hP, hD⟩ := va_join (wr := (wd_6b0d8e05 h0 h1 h3 v0 h2 g0 f5 h3 g1 f6)) (w1 := (wd_09b0abee h1 h2 v1 x29 v3 v4)) hP hD [1] [0, 2, 3] rfl rfl (by decide) (by decide) hk1 hFc hP1 hD1
    generalize H1 = H at hP hS ⊢
    have hP := hP.sub (ws' := (wd_1ad0248d h0 h1 h3 v0 h1 h2 v1 x29 v3 v4 h2 g0 f5 h3 g1 f6)) [0, 3, 1, 2] rfl
    have hD := hD.sub (ws' := (wd_1ad0248d h0 h1 h3 v0 h1 h2 v1 x29 v3 v4 h2 g0 f5 h3 g1 f6)) [0, 3, 1, 2] (by decide) rfl
    have hP : va_P (dC, dI) vwCl (wd_1ad0248d h0 h1 h3 v0 h1 h2 v1 x29 v3 v4 h2 g0 f5 h3 g1 f6) H := hP
    have hD : va_D A (wd_1ad0248d h0 h1 h3 v0 h1 h2 v1 x29 v3 v4 h2 g0 f5 h3 g1 f6) := hD
    refine lv_aload_n hx hb dX3_readAtom_27 rfl (lv_at hl 1 rfl) ?_
    refine lv_iload_n hx hb dX3_readAtom_28 rfl (lv_at hl 2 rfl) ?_
    refine lv_iconst (v := 1) hx hb dX3_readAtom_29 (by decide) ?_
    refine lv_iadd hx hb dX3_readAtom_30 ?_
    refine lv_topi (fun tv30 etv30 => ?_)
    obtain rfl : tv30 = (3 : Int32) := etv30.trans (by first | rfl | decide)
    have hPc := hP.sub (ws' := (wd_1ad0248d h0 h1 h3 v0 h1 h2 v1 x29 v3 v4 h2 g0 f5 h3 g1 f6)) [0, 1, 2, 3] rfl
    have hDc := hD.sub (ws' := (wd_1ad0248d h0 h1 h3 v0 h1 h2 v1 x29 v3 v4 h2 g0 f5 h3 g1 f6)) [0, 1, 2, 3] (by decide) rfl
    have hKc := hK.sub (tys' := [(g0, .int), (g1, .int)]) [0, 1] rfl
    have hFc := va_free (wc := (wd_1ad0248d h0 h1 h3 v0 h1 h2 v1 x29 v3 v4 h2 g0 f5 h3 g1 f6)) hD hS hA [0, 1, 2, 3] rfl
    refine va_calli (va_runV (As := [.int 3]) (rest := []) ⟨hx, hb, hml, hown, hts⟩ (k_X3_readSum_3 l dC dI adK adV h0 h1 h2 h3 v0 v1 x29 v3 v4 g0 f5 g1 f6 ⟨by first | omega | decide, by first | omega | decide⟩ ⟨by first | omega | decide, by first | omega | decide⟩ H.size) (cwV 1 hts g_X3_readAtom_4_10 rfl rfl rfl (by decide +kernel) ⟨Nat.le_of_ble_eq_true rfl, Nat.le_of_ble_eq_true rfl⟩) ⟨fun a U g mk q => by obtain ⟨q0, q1, qP, qK, qD, n0, n1, n2⟩ := q; exact ⟨q0, q1, qP, va_K.moved (u := U) (U := U.calling g mk a) (Vm.Alike.refl U.vm) qK, qD, vk_R.same rfl n0, va_Z.moved (Vm.Alike.refl _) n1, vk_S.moved (Vm.Alike.refl _) n2⟩, va_recv hKc hPc (ci := 3) (q0 := 0) rfl rfl, fun U hU hW => ⟨rfl, by rw [hU], by rw [hU]; exact hPc, va_K.moved hW.alike hKc, hDc.weaken (fun _ _ _ _ => trivial), vk_R.warm hW h_vr_2, (by rw [hU]; exact (va_Z.moved hW.alike (va_Z.kept h_st_CS hS.2.1)).narrow hFc), (by rw [hU]; exact (vk_S.moved hW.alike (vk_S.kept h_st_S hS.2.1)).narrow hFc)⟩⟩ rfl rfl hl.1 rfl (lv_room (Nat.le_of_ble_eq_true rfl)) dX3_readAtom_31 ⟨Nat.le_of_ble_eq_true rfl, Nat.le_of_ble_eq_true rfl⟩) hS (fun q _ h => hFc q h) hFc (fun ra31 u t H1 locs ht hvm hwra31 hB hz1 hk1 hS => ?_)
    obtain ⟨x32, x33, x34, x35, fn36, oa_x32, ob_x32, hP1, hK1, hD1⟩ := hB
    rw [ht] at hP1
    obtain ⟨hP, hD⟩ := va_join (wr := []) (w1 := (wd_1ad0248d h0 h1 h3 x32 h1 h2 v1 x33 x34 x35 h2 g0 f5 h3 g1 fn36)) hP hD [0, 1, 2, 3] [] rfl rfl (by decide) (by decide) hk1 hFc hP1 hD1
    generalize H1 = H at hP hS ⊢
    have hP : va_P (dC, dI) vwCl (wd_1ad0248d h0 h1 h3 x32 h1 h2 v1 x33 x34 x35 h2 g0 f5 h3 g1 fn36) H := hP
    have hD : va_D A (wd_1ad0248d h0 h1 h3 x32 h1 h2 v1 x33 x34 x35 h2 g0 f5 h3 g1 fn36) := hD
    obtain ⟨wa_ra31, wb_ra31⟩ := hwra31
    have wa_ra31 : 0 ≤ ra31.toInt := wa_ra31
    have wb_ra31 : ra31.toInt ≤ 1 := wb_ra31
    have hJ40 : ∀ (x37 : Int32) (x38 : Int32) (x39 : Int32) (H : Heap) (locs : List Loc) (ls : Array Slot), 0 ≤ x37.toInt → x37.toInt ≤ 1 → va_P (dC, dI) vwCl (wd_1ad0248d h0 h1 h3 x32 h1 h2 v1 x38 x39 x35 h2 g0 f5 h3 g1 fn36) H → va_D A (wd_1ad0248d h0 h1 h3 x32 h1 h2 v1 x38 x39 x35 h2 g0 f5 h3 g1 fn36) → va_S A s.heap H locs → lv_has ls 4 [(2, .int ra1), (0, .ref h0), (1, .int 2)] → W p l e ({ frames := 16, cells := 0, slots := 0, locals := 367 }) s m ([.ref h0, .int 2] : List Value).toArray below meth c H locs 0 0 Q (F0 m 54 ls [.int x37]) := by
      intro x37 x38 x39 H locs ls qa_x37 qb_x37 hP hD hS hl
      subst hQ
      have hP9 := hP.sub (ws' := (wd_1ad0248d h0 h1 h3 x32 h1 h2 v1 x38 x39 x35 h2 g0 f5 h3 g1 fn36)) [0, 1, 2, 3] rfl
      have hD9 := hD.sub (ws' := (wd_1ad0248d h0 h1 h3 x32 h1 h2 v1 x38 x39 x35 h2 g0 f5 h3 g1 fn36)) [0, 1, 2, 3] (by decide) rfl
      have hK9 := hK.sub (tys' := []) [] rfl
      exact W.zret (v := x37) hx hb hr (pv_nz (by omega) (by omega)) (fun t ht hW => ⟨⟨x37, (), rfl, ⟨by first | omega | decide, by first | omega | decide⟩, x32, x38, x39, x35, fn36, by first | omega | decide, by first | omega | decide, by rw [ht]; exact hP9, va_K.moved hW.alike hK9, hD9⟩, hS.F ht⟩) hS.2.2 dX3_readAtom_54
    refine lv_if_eq (tgt := 53) hx hb dX3_readAtom_34 (by decide) (fun c41 => ?_) (fun c41 => ?_)
    · skip
      have fc41 : ra31.toInt = 0 := congrArg Int32.toInt c41
      refine lv_iconst (v := 0) hx hb dX3_readAtom_53 (by decide) ?_
      exact hJ40 0 x33 x34 H locs ls (by first | omega | decide) (by first | omega | decide) hP hD hS (lv_sub hl [0, 1, 2] rfl)
    · skip
      have fc41 : ¬ (ra31.toInt = 0) := fun h9 => c41 (Int32.toInt_inj.mp h9)
      refine lv_aload_n hx hb dX3_readAtom_37 rfl (lv_at hl 1 rfl) ?_
      refine va_get (D := (dC, dI)) (ci := 3) (v := .ref h1) (C := RX3) (T := TX3) (N := 3) hx hb hts (fun _ h => List.mem_cons_of_mem _ (List.mem_append_left _ (List.mem_append_right _ h))) hown hK hP 0 rfl rfl 0 (by decide) (hts (.fieldLink RX3 19 "LeftArguments$LawReader" "tape" "LLeftArguments$Tape;") (List.mem_cons_of_mem _ (List.mem_append_left _ (List.mem_append_left _ (List.mem_of_getElem? (i := 0) rfl))))) (fun _ h9 => h9) rfl dX3_readAtom_38 ?_
      refine lv_bipush (v := 93) hx hb dX3_readAtom_41 (by decide) ?_
      have hPc := hP.sub (ws' := (wd_82cdd16b h1 h2 v1 x33 x34 x35 h2 g0 f5)) [1, 2] rfl
      have hDc := hD.sub (ws' := (wd_82cdd16b h1 h2 v1 x33 x34 x35 h2 g0 f5)) [1, 2] (by decide) rfl
      have hKc := hK.sub (tys' := [(g0, .int)]) [0] rfl
      have hFc := va_free (wc := (wd_82cdd16b h1 h2 v1 x33 x34 x35 h2 g0 f5)) hD hS hA [1, 2] rfl
      refine va_calli (va_runV (As := [.int 93]) (rest := []) ⟨hx, hb, hml, hown, hts⟩ (k_X10_take l dC dI h1 h2 v1 x33 x34 x35 g0 f5 93 ⟨by first | omega | decide, by first | omega | decide⟩ H.size) (cwV 1 hts g_X3_readAtom_4_11 rfl rfl rfl (by decide +kernel) ⟨Nat.le_of_ble_eq_true rfl, Nat.le_of_ble_eq_true rfl⟩) ⟨fun a U g mk q => by obtain ⟨q0, q1, qP, qK, qD⟩ := q; exact ⟨q0, q1, qP, va_K.moved (u := U) (U := U.calling g mk a) (Vm.Alike.refl U.vm) qK, qD⟩, va_recv hKc hPc (ci := 10) (q0 := 0) rfl rfl, fun U hU hW => ⟨rfl, by rw [hU], by rw [hU]; exact hPc, va_K.moved hW.alike hKc, hDc.weaken (fun _ _ _ _ => trivial)⟩⟩ rfl rfl hl.1 rfl (lv_room (Nat.le_of_ble_eq_true rfl)) dX3_readAtom_43 ⟨Nat.le_of_ble_eq_true rfl, Nat.le_of_ble_eq_true rfl⟩) hS (fun q _ h => hFc q h) hFc (fun ra42 u t H1 locs ht hvm hwra42 hB hz1 hk1 hS => ?_)
      obtain ⟨x43, x44, hP1, hK1, hD1⟩ := hB
      rw [ht] at hP1
      obtain ⟨hP, hD⟩ := va_join (wr := (wd_b958b9da h0 h1 h3 x32 h3 g1 fn36)) (w1 := (wd_82cdd16b h1 h2 v1 x43 x44 x35 h2 g0 f5)) hP hD [1, 2] [0, 3] rfl rfl (by decide) (by decide) hk1 hFc hP1 hD1
      generalize H1 = H at hP hS ⊢
      have hP := hP.sub (ws' := (wd_1ad0248d h0 h1 h3 x32 h1 h2 v1 x43 x44 x35 h2 g0 f5 h3 g1 fn36)) [0, 2, 3, 1] rfl
      have hD := hD.sub (ws' := (wd_1ad0248d h0 h1 h3 x32 h1 h2 v1 x43 x44 x35 h2 g0 f5 h3 g1 fn36)) [0, 2, 3, 1] (by decide) rfl
      have hP : va_P (dC, dI) vwCl (wd_1ad0248d h0 h1 h3 x32 h1 h2 v1 x43 x44 x35 h2 g0 f5 h3 g1 fn36) H := hP
      have hD : va_D A (wd_1ad0248d h0 h1 h3 x32 h1 h2 v1 x43 x44 x35 h2 g0 f5 h3 g1 fn36) := hD
      obtain ⟨wa_ra42, wb_ra42⟩ := hwra42
      have wa_ra42 : 0 ≤ ra42.toInt := wa_ra42
      have wb_ra42 : ra42.toInt ≤ 1 := wb_ra42
      refine lv_if_eq (tgt := 53) hx hb dX3_readAtom_46 (by decide) (fun c45 => ?_) (fun c45 => ?_)
      · skip
        have fc45 : ra42.toInt = 0 := congrArg Int32.toInt c45
        refine lv_iconst (v := 0) hx hb dX3_readAtom_53 (by decide) ?_
        exact hJ40 0 x43 x44 H locs ls (by first | omega | decide) (by first | omega | decide) hP hD hS (lv_sub hl [0, 1, 2] rfl)
      · skip
        have fc45 : ¬ (ra42.toInt = 0) := fun h9 => c45 (Int32.toInt_inj.mp h9)
        refine lv_iconst (v := 1) hx hb dX3_readAtom_49 (by decide) ?_
        refine lv_goto (tgt := 54) hx hb dX3_readAtom_50 (by decide) ?_
        exact hJ40 1 x43 x44 H locs ls (by first | omega | decide) (by first | omega | decide) hP hD hS (lv_sub hl [0, 1, 2] rfl)
def q_X3_readTerm_4 : List Cond := .code yX3_readTerm cX3_readTerm 4 (some .boolean) :: (([.code yX3_readAtom cX3_readAtom 4 (some .boolean), .fieldLink RX3 19 "LeftArguments$LawReader" "tape" "LLeftArguments$Tape;", .code yX10_next cX10_next 1 (some .int), .fieldLink RX10 19 "LeftArguments$Tape" "at" "I", .fieldLink RX10 15 "LeftArguments$Tape" "used" "I", .fieldLink RX10 9 "LeftArguments$Tape" "bytes" "[I", .initialized RX10, .instanceMethod yX10_next, .selects RX10 yX10_next yX10_next, .methodLink RX3 48 yX10_next, .code yX10_isDigit cX10_isDigit 1 (some .boolean), .static yX10_isDigit, .methodLink RX3 92 yX10_isDigit, .code yX10_step cX10_step 1 none, .instanceMethod yX10_step, .selects RX10 yX10_step yX10_step, .methodLink RX3 77 yX10_step, .code yX3_write cX3_write 3 none, .fieldLink RX3 15 "LeftArguments$LawReader" "used" "I", .fieldLink RX3 11 "LeftArguments$LawReader" "code" "[I", .initialized RX3, .instanceMethod yX3_write, .selects RX3 yX3_write yX3_write, .methodLink RX3 66 yX3_write, .code yX10_wrongHere cX10_wrongHere 1 (some .boolean), .fieldLink RX10 22 "LeftArguments$Tape" "wrongAt" "I", .instanceMethod yX10_wrongHere, .selects RX10 yX10_wrongHere yX10_wrongHere, .methodLink RX3 83 yX10_wrongHere, .code yJ0_indexOf_0f7a4 cJ0_indexOf_0f7a4 2 (some .int), .code yJ0_indexOf_7cf53 cJ0_indexOf_7cf53 3 (some .int), .code yJ0_isLatin1_aae02 cJ0_isLatin1_aae02 1 (some .boolean), .fieldLink RJ0 38 "java/lang/String" "COMPACT_STRINGS" "Z", .fieldLink RJ0 15 "java/lang/String" "coder" "B", .initialized RJ0, .instanceMethod yJ0_isLatin1_aae02, .selects RJ0 yJ0_isLatin1_aae02 yJ0_isLatin1_aae02, .methodLink RJ0 492 yJ0_isLatin1_aae02, .fieldLink RJ0 9 "java/lang/String" "value" "[B", .code yJ0_length_8abf5 cJ0_length_8abf5 1 (some .int), .code yJ0_coder_7d493 cJ0_coder_7d493 1 (some .byte), .instanceMethod yJ0_coder_7d493, .selects RJ0 yJ0_coder_7d493 yJ0_coder_7d493, .methodLink RJ0 335 yJ0_coder_7d493, .instanceMethod yJ0_length_8abf5, .selects RJ0 yJ0_length_8abf5 yJ0_length_8abf5, .methodLink RJ0 505 yJ0_length_8abf5, .code yJ1_indexOf_4cfef cJ1_indexOf_4cfef 4 (some .int), .code yJ1_canEncode_9a6ad cJ1_canEncode_9a6ad 1 (some .boolean), .initialized RJ1, .static yJ1_canEncode_9a6ad, .methodLink RJ1 88 yJ1_canEncode_9a6ad, .methodLink RJ1 92 Lib.Math.max.name, .static Lib.Math.max.name, .initialized "java/lang/Math", .code Lib.Math.max.name Lib.Math.max.code 2 (some .int), .methodLink RJ1 38 Lib.Math.min.name, .static Lib.Math.min.name, .code Lib.Math.min.name Lib.Math.min.code 2 (some .int), .code yJ1_indexOfChar_4cfef cJ1_indexOfChar_4cfef 6 (some .int), .static yJ1_indexOfChar_4cfef, .methodLink RJ1 95 yJ1_indexOfChar_4cfef, .static yJ1_indexOf_4cfef, .methodLink RJ0 637 yJ1_indexOf_4cfef, .instanceMethod yJ0_indexOf_7cf53, .selects RJ0 yJ0_indexOf_7cf53 yJ0_indexOf_7cf53, .methodLink RJ0 633 yJ0_indexOf_7cf53, .instanceMethod yJ0_indexOf_0f7a4, .selects RJ0 yJ0_indexOf_0f7a4 yJ0_indexOf_0f7a4, .methodLink RX3 103 yJ0_indexOf_0f7a4, .code yX10_takeNumber cX10_takeNumber 3 (some .boolean), .methodLink RX10 37 yX10_next, .methodLink RX10 45 yX10_isDigit, .fieldLink RX10 25 "LeftArguments$Tape" "number" "I", .code yX10_sign cX10_sign 1 (some .int), .instanceMethod yX10_sign, .selects RX10 yX10_sign yX10_sign, .methodLink RX10 49 yX10_sign, .methodLink RX10 41 yX10_wrongHere, .instanceMethod yX10_takeNumber, .selects RX10 yX10_takeNumber yX10_takeNumber, .methodLink RX3 95 yX10_takeNumber, .code yX10_number cX10_number 1 (some .int), .instanceMethod yX10_number, .selects RX10 yX10_number yX10_number, .methodLink RX3 98 yX10_number, .code yX3_readSum cX3_readSum 4 (some .boolean), .code yX3_readTerm cX3_readTerm 4 (some .boolean), .instanceMethod yX3_readAtom, .selects RX3 yX3_readAtom yX3_readAtom, .methodLink RX3 89 yX3_readAtom, .instanceMethod yX3_readTerm, .selects RX3 yX3_readTerm yX3_readTerm, .methodLink RX3 86 yX3_readTerm, .instanceMethod yX3_readSum, .selects RX3 yX3_readSum yX3_readSum, .methodLink RX3 59 yX3_readSum, .code yX10_take cX10_take 2 (some .boolean), .instanceMethod yX10_take, .selects RX10 yX10_take yX10_take, .methodLink RX3 51 yX10_take] : List Cond) ++ wsX30 ++ wsX100)
set_option maxRecDepth 20000 in
theorem g_X3_readTerm_4_0 : GoodIn q_X3_readTerm_4 (wsV RX3 89 RX3 yX3_readAtom q_X3_readAtom_4) := goodIn_app (goodIn_r _ [91, 89, 90, 21] rfl (by decide +kernel)) (goodIn_ca (goodIn_ca (goodIn_r (.code yX3_readAtom cX3_readAtom 4 (some .boolean) :: [.fieldLink RX3 19 "LeftArguments$LawReader" "tape" "LLeftArguments$Tape;", .code yX10_next cX10_next 1 (some .int), .fieldLink RX10 19 "LeftArguments$Tape" "at" "I", .fieldLink RX10 15 "LeftArguments$Tape" "used" "I", .fieldLink RX10 9 "LeftArguments$Tape" "bytes" "[I", .initialized RX10, .instanceMethod yX10_next, .selects RX10 yX10_next yX10_next, .methodLink RX3 48 yX10_next, .code yX10_isDigit cX10_isDigit 1 (some .boolean), .static yX10_isDigit, .methodLink RX3 92 yX10_isDigit, .code yX10_step cX10_step 1 none, .instanceMethod yX10_step, .selects RX10 yX10_step yX10_step, .methodLink RX3 77 yX10_step, .code yX3_write cX3_write 3 none, .fieldLink RX3 15 "LeftArguments$LawReader" "used" "I", .fieldLink RX3 11 "LeftArguments$LawReader" "code" "[I", .initialized RX3, .instanceMethod yX3_write, .selects RX3 yX3_write yX3_write, .methodLink RX3 66 yX3_write, .code yX10_wrongHere cX10_wrongHere 1 (some .boolean), .fieldLink RX10 22 "LeftArguments$Tape" "wrongAt" "I", .instanceMethod yX10_wrongHere, .selects RX10 yX10_wrongHere yX10_wrongHere, .methodLink RX3 83 yX10_wrongHere, .code yJ0_indexOf_0f7a4 cJ0_indexOf_0f7a4 2 (some .int), .code yJ0_indexOf_7cf53 cJ0_indexOf_7cf53 3 (some .int), .code yJ0_isLatin1_aae02 cJ0_isLatin1_aae02 1 (some .boolean), .fieldLink RJ0 38 "java/lang/String" "COMPACT_STRINGS" "Z", .fieldLink RJ0 15 "java/lang/String" "coder" "B", .initialized RJ0, .instanceMethod yJ0_isLatin1_aae02, .selects RJ0 yJ0_isLatin1_aae02 yJ0_isLatin1_aae02, .methodLink RJ0 492 yJ0_isLatin1_aae02, .fieldLink RJ0 9 "java/lang/String" "value" "[B", .code yJ0_length_8abf5 cJ0_length_8abf5 1 (some .int), .code yJ0_coder_7d493 cJ0_coder_7d493 1 (some .byte), .instanceMethod yJ0_coder_7d493, .selects RJ0 yJ0_coder_7d493 yJ0_coder_7d493, .methodLink RJ0 335 yJ0_coder_7d493, .instanceMethod yJ0_length_8abf5, .selects RJ0 yJ0_length_8abf5 yJ0_length_8abf5, .methodLink RJ0 505 yJ0_length_8abf5, .code yJ1_indexOf_4cfef cJ1_indexOf_4cfef 4 (some .int), .code yJ1_canEncode_9a6ad cJ1_canEncode_9a6ad 1 (some .boolean), .initialized RJ1, .static yJ1_canEncode_9a6ad, .methodLink RJ1 88 yJ1_canEncode_9a6ad, .methodLink RJ1 92 Lib.Math.max.name, .static Lib.Math.max.name, .initialized "java/lang/Math", .code Lib.Math.max.name Lib.Math.max.code 2 (some .int), .methodLink RJ1 38 Lib.Math.min.name, .static Lib.Math.min.name, .code Lib.Math.min.name Lib.Math.min.code 2 (some .int), .code yJ1_indexOfChar_4cfef cJ1_indexOfChar_4cfef 6 (some .int), .static yJ1_indexOfChar_4cfef, .methodLink RJ1 95 yJ1_indexOfChar_4cfef, .static yJ1_indexOf_4cfef, .methodLink RJ0 637 yJ1_indexOf_4cfef, .instanceMethod yJ0_indexOf_7cf53, .selects RJ0 yJ0_indexOf_7cf53 yJ0_indexOf_7cf53, .methodLink RJ0 633 yJ0_indexOf_7cf53, .instanceMethod yJ0_indexOf_0f7a4, .selects RJ0 yJ0_indexOf_0f7a4 yJ0_indexOf_0f7a4, .methodLink RX3 103 yJ0_indexOf_0f7a4, .code yX10_takeNumber cX10_takeNumber 3 (some .boolean), .methodLink RX10 37 yX10_next, .methodLink RX10 45 yX10_isDigit, .fieldLink RX10 25 "LeftArguments$Tape" "number" "I", .code yX10_sign cX10_sign 1 (some .int), .instanceMethod yX10_sign, .selects RX10 yX10_sign yX10_sign, .methodLink RX10 49 yX10_sign, .methodLink RX10 41 yX10_wrongHere, .instanceMethod yX10_takeNumber, .selects RX10 yX10_takeNumber yX10_takeNumber, .methodLink RX3 95 yX10_takeNumber, .code yX10_number cX10_number 1 (some .int), .instanceMethod yX10_number, .selects RX10 yX10_number yX10_number, .methodLink RX3 98 yX10_number, .code yX3_readSum cX3_readSum 4 (some .boolean), .code yX3_readTerm cX3_readTerm 4 (some .boolean), .code yX3_readAtom cX3_readAtom 4 (some .boolean), .instanceMethod yX3_readAtom, .selects RX3 yX3_readAtom yX3_readAtom, .methodLink RX3 89 yX3_readAtom, .instanceMethod yX3_readTerm, .selects RX3 yX3_readTerm yX3_readTerm, .methodLink RX3 86 yX3_readTerm, .instanceMethod yX3_readSum, .selects RX3 yX3_readSum yX3_readSum, .methodLink RX3 59 yX3_readSum, .code yX10_take cX10_take 2 (some .boolean), .instanceMethod yX10_take, .selects RX10 yX10_take yX10_take, .methodLink RX3 51 yX10_take]) [1, 2, 3, 4, 5, 6, 7, 8, 9, 10, 11, 12, 13, 14, 15, 16, 17, 18, 19, 20, 21, 22, 23, 24, 25, 26, 27, 28, 29, 30, 31, 32, 33, 34, 35, 36, 37, 38, 39, 40, 41, 42, 43, 44, 45, 46, 47, 48, 49, 50, 51, 52, 53, 54, 55, 56, 57, 58, 59, 60, 61, 62, 63, 64, 65, 66, 67, 68, 69, 70, 71, 72, 73, 74, 75, 76, 77, 78, 79, 80, 81, 82, 83, 84, 85, 86, 87, 88, 1, 89, 90, 91, 92, 93, 94, 95, 96, 97, 98, 99, 100, 101] rfl (by decide +kernel)) (goodIn_sub (fun _ h => List.mem_cons_of_mem _ (List.mem_append_left _ (List.mem_append_right _ h))) gwX3)) (goodIn_sub (fun _ h => List.mem_cons_of_mem _ (List.mem_append_right _ h)) gwX10))
set_option maxRecDepth 20000 in
theorem g_X3_readTerm_4_1 : GoodIn q_X3_readTerm_4 (wsV RX3 48 RX10 yX10_next q_X10_next) := goodIn_app (goodIn_r _ [10, 8, 9, 7] rfl (by decide +kernel)) (goodIn_ca (goodIn_r (.code yX10_next cX10_next 1 (some .int) :: [.fieldLink RX10 19 "LeftArguments$Tape" "at" "I", .fieldLink RX10 15 "LeftArguments$Tape" "used" "I", .fieldLink RX10 9 "LeftArguments$Tape" "bytes" "[I"]) [3, 4, 5, 6] rfl (by decide +kernel)) (goodIn_sub (fun _ h => List.mem_cons_of_mem _ (List.mem_append_right _ h)) gwX10))
set_option maxRecDepth 20000 in
theorem g_X3_readTerm_4_2 : GoodIn q_X3_readTerm_4 (wsV RX3 77 RX10 yX10_step q_X10_step) := goodIn_app (goodIn_r _ [17, 15, 16, 7] rfl (by decide +kernel)) (goodIn_ca (goodIn_r (.code yX10_step cX10_step 1 none :: [.fieldLink RX10 19 "LeftArguments$Tape" "at" "I"]) [14, 4] rfl (by decide +kernel)) (goodIn_sub (fun _ h => List.mem_cons_of_mem _ (List.mem_append_right _ h)) gwX10))
set_option maxRecDepth 20000 in
theorem g_X3_readTerm_4_4 : GoodIn q_X3_readTerm_4 (wsV RX3 66 RX3 yX3_write q_X3_write) := goodIn_app (goodIn_r _ [24, 22, 23, 21] rfl (by decide +kernel)) (goodIn_ca (goodIn_r (.code yX3_write cX3_write 3 none :: [.fieldLink RX3 15 "LeftArguments$LawReader" "used" "I", .fieldLink RX3 11 "LeftArguments$LawReader" "code" "[I"]) [18, 19, 20] rfl (by decide +kernel)) (goodIn_sub (fun _ h => List.mem_cons_of_mem _ (List.mem_append_left _ (List.mem_append_right _ h))) gwX3))
set_option maxHeartbeats 4000000 in
set_option maxRecDepth 100000 in
theorem k_X3_readTerm_4 (l : Launch) (dC : Nat → ClassId) (dI : Nat → Nat → Nat) (adK : Nat → Nat) (adV : Nat → Nat) (h0 : Nat) (h1 : Nat) (h2 : Nat) (h3 : Nat) (v0 : Int32) (v1 : Int32) (v2 : Int32) (v3 : Int32) (v4 : Int32) (g0 : ClassId) (f5 : Nat → Int32) (g1 : ClassId) (f6 : Nat → Int32) (i_v0 : 0 ≤ v0.toInt ∧ v0.toInt ≤ 256) (i_v1 : 0 ≤ v1.toInt ∧ v1.toInt ≤ 240) (sz : Nat) : Met l yX3_readTerm q_X3_readTerm_4 ({ frames := 17, cells := 0, slots := 0, locals := 390 }) (va_Pc [.ref h0, .int 2] (fun U => U.heap.size = sz ∧ va_P (dC, dI) vwCl (wd_1ad0248d h0 h1 h3 v0 h1 h2 v1 v2 v3 v4 h2 g0 f5 h3 g1 f6) U.heap ∧ va_K (dC, dI) vwCl [(g0, .int), (g1, .int)] U ∧ va_D (fun _ => True) (wd_1ad0248d h0 h1 h3 v0 h1 h2 v1 v2 v3 v4 h2 g0 f5 h3 g1 f6) ∧ vk_R RX3 101 "zaondt" (adK 2) U ∧ va_Z "java/lang/String" "COMPACT_STRINGS" "Z" (.int 1) (va_A (wd_1ad0248d h0 h1 h3 v0 h1 h2 v1 v2 v3 v4 h2 g0 f5 h3 g1 f6) sz) U U.heap ∧ vk_S 3 pv_len3 pv_byt3 adK adV (va_A (wd_1ad0248d h0 h1 h3 v0 h1 h2 v1 v2 v3 v4 h2 g0 f5 h3 g1 f6) sz) U U.heap)) (va_Qi (fun (r : Int32) (_ : Unit) => 0 ≤ r.toInt ∧ r.toInt ≤ 1) (fun (_ : Unit) (t : State) => ∃ (o_h0_2 : Int32) (o_h1_2 : Int32) (o_h1_3 : Int32) (o_h1_4 : Int32) (o_h3 : Nat → Int32), 0 ≤ o_h0_2.toInt ∧ o_h0_2.toInt ≤ 256 ∧ va_P (dC, dI) vwCl (wd_1ad0248d h0 h1 h3 o_h0_2 h1 h2 v1 o_h1_2 o_h1_3 o_h1_4 h2 g0 f5 h3 g1 o_h3) t.heap ∧ va_K (dC, dI) vwCl [] t ∧ va_D (va_A (wd_1ad0248d h0 h1 h3 v0 h1 h2 v1 v2 v3 v4 h2 g0 f5 h3 g1 f6) sz) (wd_1ad0248d h0 h1 h3 o_h0_2 h1 h2 v1 o_h1_2 o_h1_3 o_h1_4 h2 g0 f5 h3 g1 o_h3)) (va_A (wd_1ad0248d h0 h1 h3 v0 h1 h2 v1 v2 v3 v4 h2 g0 f5 h3 g1 f6) sz)) 0 0 (va_A (wd_1ad0248d h0 h1 h3 v0 h1 h2 v1 v2 v3 v4 h2 g0 f5 h3 g1 f6) sz) := by
  refine Met.ofW (cc := cX3_readTerm) (maxL := 4) (ret := (some .boolean)) (by decide) rfl ?_
  intro p e s m args below meth c s₁ B hml hv
  obtain ⟨i_v0a, i_v0b⟩ := i_v0
  obtain ⟨i_v1a, i_v1b⟩ := i_v1
  obtain ⟨rfl, hsz, hP, hK, hD0, h_vr_2, h_st_CS, h_st_S⟩ := hv
  have hx := B.exec
  have hb := B.bytes
  have hr := B.returns
  have hts := atoms_spec (ws := q_X3_readTerm_4) B.pre
  have hown : s.vm.findClass RX3 = some m.cls := findClass_of_methodNamed B.named
  have hlocks := B.notSynchronized
  subst hsz
  have hD := hD0.self (sz := s.heap.size)
  generalize hAe : va_A (wd_1ad0248d h0 h1 h3 v0 h1 h2 v1 v2 v3 v4 h2 g0 f5 h3 g1 f6) s.heap.size = A at hD h_st_CS h_st_S ⊢
  have hA : ∀ q : Nat, s.heap.size ≤ q → A q := fun q h => by rw [← hAe]; exact Or.inr h
  have hS : va_S A s.heap s.heap [] := va_S.rf
  generalize hQ : (MQ below _ _ s 0 0 A) = Q
  have hl := lv_entry ([.ref h0, .int 2]) (n := 4) (Nat.le_of_ble_eq_true rfl)
  rw [lg_entry_eq]
  generalize (lg_sl ([.ref h0, .int 2]) ++ List.replicate (4 - (lg_sl ([.ref h0, .int 2])).length) Slot.unset).toArray = ls at hl ⊢
  have hl : lv_has ls 4 [(0, .ref h0), (1, .int 2)] := hl
  obtain ⟨H, hH⟩ : ∃ H : Heap, H = s.heap := ⟨_, rfl⟩
  obtain ⟨locs, hlocs⟩ : ∃ y : List Loc, y = [] := ⟨_, rfl⟩
  have hS : va_S A s.heap H locs := by rw [hH, hlocs]; exact va_S.rf
  have hP : va_P (dC, dI) vwCl (wd_1ad0248d h0 h1 h3 v0 h1 h2 v1 v2 v3 v4 h2 g0 f5 h3 g1 f6) H := by rw [hH]; exact hP
  rw [← hH, ← hlocs]
  refine lv_aload_n hx hb dX3_readTerm_0 rfl (lv_at hl 0 rfl) ?_
  refine lv_iload_n hx hb dX3_readTerm_1 rfl (lv_at hl 1 rfl) ?_
  have hPc := hP.sub (ws' := (wd_1ad0248d h0 h1 h3 v0 h1 h2 v1 v2 v3 v4 h2 g0 f5 h3 g1 f6)) [0, 1, 2, 3] rfl
  have hDc := hD.sub (ws' := (wd_1ad0248d h0 h1 h3 v0 h1 h2 v1 v2 v3 v4 h2 g0 f5 h3 g1 f6)) [0, 1, 2, 3] (by decide) rfl
  have hKc := hK.sub (tys' := [(g0, .int), (g1, .int)]) [0, 1] rfl
  have hFc := va_free (wc := (wd_1ad0248d h0 h1 h3 v0 h1 h2 v1 v2 v3 v4 h2 g0 f5 h3 g1 f6)) hD hS hA [0, 1, 2, 3] rfl
  refine va_calli (va_runV (As := [.int 2]) (rest := []) ⟨hx, hb, hml, hown, hts⟩ (k_X3_readAtom_4 l dC dI adK adV h0 h1 h2 h3 v0 v1 v2 v3 v4 g0 f5 g1 f6 ⟨by first | omega | decide, by first | omega | decide⟩ ⟨by first | omega | decide, by first | omega | decide⟩ H.size) (cwV 1 hts g_X3_readTerm_4_0 rfl rfl rfl (by decide +kernel) ⟨Nat.le_of_ble_eq_true rfl, Nat.le_of_ble_eq_true rfl⟩) ⟨fun a U g mk q => by obtain ⟨q0, q1, qP, qK, qD, n0, n1, n2⟩ := q; exact ⟨q0, q1, qP, va_K.moved (u := U) (U := U.calling g mk a) (Vm.Alike.refl U.vm) qK, qD, vk_R.same rfl n0, va_Z.moved (Vm.Alike.refl _) n1, vk_S.moved (Vm.Alike.refl _) n2⟩, va_recv hKc hPc (ci := 3) (q0 := 0) rfl rfl, fun U hU hW => ⟨rfl, by rw [hU], by rw [hU]; exact hPc, va_K.moved hW.alike hKc, hDc.weaken (fun _ _ _ _ => trivial), vk_R.warm hW h_vr_2, (by rw [hU]; exact (va_Z.moved hW.alike (va_Z.kept h_st_CS hS.2.1)).narrow hFc), (by rw [hU]; exact (vk_S.moved hW.alike (vk_S.kept h_st_S hS.2.1)).narrow hFc)⟩⟩ rfl rfl hl.1 rfl (lv_room (Nat.le_of_ble_eq_true rfl)) dX3_readTerm_2 ⟨Nat.le_of_ble_eq_true rfl, Nat.le_of_ble_eq_true rfl⟩) hS (fun q _ h => hFc q h) hFc (fun ra1 u t H1 locs ht hvm hwra1 hB hz1 hk1 hS => ?_)
  obtain ⟨x2, x3, x4, x5, fn6, oa_x2, ob_x2, hP1, hK1, hD1⟩ := hB
  rw [ht] at hP1
  obtain ⟨hP, hD⟩ := va_join (wr := []) (w1 := (wd_1ad0248d h0 h1 h3 x2 h1 h2 v1 x3 x4 x5 h2 g0 f5 h3 g1 fn6)) hP hD [0, 1, 2, 3] [] rfl rfl (by decide) (by decide) hk1 hFc hP1 hD1
  generalize H1 = H at hP hS ⊢
  have hP : va_P (dC, dI) vwCl (wd_1ad0248d h0 h1 h3 x2 h1 h2 v1 x3 x4 x5 h2 g0 f5 h3 g1 fn6) H := hP
  have hD : va_D A (wd_1ad0248d h0 h1 h3 x2 h1 h2 v1 x3 x4 x5 h2 g0 f5 h3 g1 fn6) := hD
  obtain ⟨wa_ra1, wb_ra1⟩ := hwra1
  have wa_ra1 : 0 ≤ ra1.toInt := wa_ra1
  have wb_ra1 : ra1.toInt ≤ 1 := wb_ra1
  refine lv_if_ne (tgt := 10) hx hb dX3_readTerm_5 (by decide) (fun c7 => ?_) (fun c7 => ?_)
  · skip
    have fc7 : ¬ (ra1.toInt = 0) := fun h9 => c7 (Int32.toInt_inj.mp h9)
    refine lv_iconst (v := 0) hx hb dX3_readTerm_10 (by decide) ?_
    refine lv_istore_n (lv' := [(2, .int 0), (0, .ref h0), (1, .int 2)]) hx hb dX3_readTerm_11 rfl hl (by decide) rfl (fun ls hl => ?_)
    have hL122 : ∀ (n9 : Nat), ∀ (x110 : Int32) (x111 : Int32) (x112 : Int32) (x113 : Int32) (x114 : Int32) (fn115 : Nat → Int32) (H : Heap) (locs : List Loc) (ls : Array Slot), 0 ≤ x110.toInt → x110.toInt ≤ 240 → 0 ≤ x111.toInt → x111.toInt ≤ 256 → (240 - x110.toInt).toNat < n9 → va_P (dC, dI) vwCl (wd_1ad0248d h0 h1 h3 x111 h1 h2 v1 x112 x113 x114 h2 g0 f5 h3 g1 fn115) H → va_D A (wd_1ad0248d h0 h1 h3 x111 h1 h2 v1 x112 x113 x114 h2 g0 f5 h3 g1 fn115) → va_S A s.heap H locs → lv_has ls 4 [(2, .int x110), (0, .ref h0), (1, .int 2)] → W p l e ({ frames := 17, cells := 0, slots := 0, locals := 390 }) s m ([.ref h0, .int 2] : List Value).toArray below meth c H locs 0 0 Q (F0 m 12 ls []) := by
      intro n9
      induction n9 with
      | zero => intro x110 x111 x112 x113 x114 fn115 H locs ls qa_x110 qb_x110 qa_x111 qb_x111 hm9 hP hD hS hl; exact absurd hm9 (Nat.not_lt_zero _)
      | succ n9 ih_hL122 =>
        intro x110 x111 x112 x113 x114 fn115 H locs ls qa_x110 qb_x110 qa_x111 qb_x111 hm9 hP hD hS hl
        refine lv_iload_n hx hb dX3_readTerm_12 rfl (lv_at hl 0 rfl) ?_
        refine lv_sipush (v := 240) hx hb dX3_readTerm_13 (by decide) ?_
        refine lv_icmp_ge (tgt := 80) hx hb dX3_readTerm_16 (by decide) (fun c123 => ?_) (fun c123 => ?_)
        · skip
          have fc123 : 240 ≤ x110.toInt := Int32.le_iff_toInt_le.mp c123
          refine lv_iconst (v := 1) hx hb dX3_readTerm_80 (by decide) ?_
          subst hQ
          have hP9 := hP.sub (ws' := (wd_1ad0248d h0 h1 h3 x111 h1 h2 v1 x112 x113 x114 h2 g0 f5 h3 g1 fn115)) [0, 1, 2, 3] rfl
          have hD9 := hD.sub (ws' := (wd_1ad0248d h0 h1 h3 x111 h1 h2 v1 x112 x113 x114 h2 g0 f5 h3 g1 fn115)) [0, 1, 2, 3] (by decide) rfl
          have hK9 := hK.sub (tys' := []) [] rfl
          exact W.zret (v := 1) hx hb hr rfl (fun t ht hW => ⟨⟨1, (), rfl, ⟨by first | omega | decide, by first | omega | decide⟩, x111, x112, x113, x114, fn115, by first | omega | decide, by first | omega | decide, by rw [ht]; exact hP9, va_K.moved hW.alike hK9, hD9⟩, hS.F ht⟩) hS.2.2 dX3_readTerm_81
        · skip
          have fc123 : ¬ (240 ≤ x110.toInt) := fun h9 => c123 (Int32.le_iff_toInt_le.mpr h9)
          refine lv_aload_n hx hb dX3_readTerm_19 rfl (lv_at hl 1 rfl) ?_
          refine va_get (D := (dC, dI)) (ci := 3) (v := .ref h1) (C := RX3) (T := TX3) (N := 3) hx hb hts (fun _ h => List.mem_cons_of_mem _ (List.mem_append_left _ (List.mem_append_right _ h))) hown hK hP 0 rfl rfl 0 (by decide) (hts (.fieldLink RX3 19 "LeftArguments$LawReader" "tape" "LLeftArguments$Tape;") (List.mem_cons_of_mem _ (List.mem_append_left _ (List.mem_append_left _ (List.mem_of_getElem? (i := 1) rfl))))) (fun _ h9 => h9) rfl dX3_readTerm_20 ?_
          have hPc := hP.sub (ws' := (wd_82cdd16b h1 h2 v1 x112 x113 x114 h2 g0 f5)) [1, 2] rfl
          have hDc := hD.sub (ws' := (wd_82cdd16b h1 h2 v1 x112 x113 x114 h2 g0 f5)) [1, 2] (by decide) rfl
          have hKc := hK.sub (tys' := [(g0, .int)]) [0] rfl
          have hFc := va_free (wc := (wd_82cdd16b h1 h2 v1 x112 x113 x114 h2 g0 f5)) hD hS hA [1, 2] rfl
          refine va_calli (va_runV (As := []) (rest := []) ⟨hx, hb, hml, hown, hts⟩ (k_X10_next l dC dI h1 h2 v1 x112 x113 x114 g0 f5 ⟨by first | omega | decide, by first | omega | decide⟩ H.size) (cwV 0 hts g_X3_readTerm_4_1 rfl rfl rfl (by decide +kernel) ⟨Nat.le_of_ble_eq_true rfl, Nat.le_of_ble_eq_true rfl⟩) ⟨fun a U g mk q => by obtain ⟨q0, q1, qP, qK, qD⟩ := q; exact ⟨q0, q1, qP, va_K.moved (u := U) (U := U.calling g mk a) (Vm.Alike.refl U.vm) qK, qD⟩, va_recv hKc hPc (ci := 10) (q0 := 0) rfl rfl, fun U hU hW => ⟨rfl, by rw [hU], by rw [hU]; exact hPc, va_K.moved hW.alike hKc, hDc.weaken (fun _ _ _ _ => trivial)⟩⟩ rfl rfl hl.1 rfl (lv_room (Nat.le_of_ble_eq_true rfl)) dX3_readTerm_23 ⟨Nat.le_of_ble_eq_true rfl, Nat.le_of_ble_eq_true rfl⟩) hS (fun q _ h => hFc q h) hFc (fun ra124 u t H1 locs ht hvm hwra124 hB hz1 hk1 hS => ?_)
          obtain ⟨x125, hP1, hK1, hD1⟩ := hB
          rw [ht] at hP1
          obtain ⟨hP, hD⟩ := va_join (wr := (wd_b958b9da h0 h1 h3 x111 h3 g1 fn115)) (w1 := (wd_82cdd16b h1 h2 v1 x125 x113 x114 h2 g0 f5)) hP hD [1, 2] [0, 3] rfl rfl (by decide) (by decide) hk1 hFc hP1 hD1
          generalize H1 = H at hP hS ⊢
          have hP := hP.sub (ws' := (wd_1ad0248d h0 h1 h3 x111 h1 h2 v1 x125 x113 x114 h2 g0 f5 h3 g1 fn115)) [0, 2, 3, 1] rfl
          have hD := hD.sub (ws' := (wd_1ad0248d h0 h1 h3 x111 h1 h2 v1 x125 x113 x114 h2 g0 f5 h3 g1 fn115)) [0, 2, 3, 1] (by decide) rfl
          have hP : va_P (dC, dI) vwCl (wd_1ad0248d h0 h1 h3 x111 h1 h2 v1 x125 x113 x114 h2 g0 f5 h3 g1 fn115) H := hP
          have hD : va_D A (wd_1ad0248d h0 h1 h3 x111 h1 h2 v1 x125 x113 x114 h2 g0 f5 h3 g1 fn115) := hD
          refine lv_istore_n (lv' := [(3, .int ra124), (2, .int x110), (0, .ref h0), (1, .int 2)]) hx hb dX3_readTerm_26 rfl hl (by decide) rfl (fun ls hl => ?_)
          refine lv_iload_n hx hb dX3_readTerm_27 rfl (lv_at hl 0 rfl) ?_
          refine lv_bipush (v := 42) hx hb dX3_readTerm_28 (by decide) ?_
          refine lv_icmp_eq (tgt := 41) hx hb dX3_readTerm_30 (by decide) (fun c126 => ?_) (fun c126 => ?_)
          · skip
            have fc126 : ra124.toInt = 42 := congrArg Int32.toInt c126
            refine lv_aload_n hx hb dX3_readTerm_41 rfl (lv_at hl 2 rfl) ?_
            refine va_get (D := (dC, dI)) (ci := 3) (v := .ref h1) (C := RX3) (T := TX3) (N := 3) hx hb hts (fun _ h => List.mem_cons_of_mem _ (List.mem_append_left _ (List.mem_append_right _ h))) hown hK hP 0 rfl rfl 0 (by decide) (hts (.fieldLink RX3 19 "LeftArguments$LawReader" "tape" "LLeftArguments$Tape;") (List.mem_cons_of_mem _ (List.mem_append_left _ (List.mem_append_left _ (List.mem_of_getElem? (i := 1) rfl))))) (fun _ h9 => h9) rfl dX3_readTerm_42 ?_
            have hPc := hP.sub (ws' := (wd_09b0abee h1 h2 v1 x125 x113 x114)) [1] rfl
            have hDc := hD.sub (ws' := (wd_09b0abee h1 h2 v1 x125 x113 x114)) [1] (by decide) rfl
            have hKc := hK.sub (tys' := []) [] rfl
            have hFc := va_free (wc := (wd_09b0abee h1 h2 v1 x125 x113 x114)) hD hS hA [1] rfl
            refine va_callv (va_runV (As := []) (rest := []) ⟨hx, hb, hml, hown, hts⟩ (k_X10_step l dC dI h1 h2 v1 x125 x113 x114 ⟨by first | omega | decide, by first | omega | decide⟩ H.size) (cwV 0 hts g_X3_readTerm_4_2 rfl rfl rfl (by decide +kernel) ⟨Nat.le_of_ble_eq_true rfl, Nat.le_of_ble_eq_true rfl⟩) ⟨fun a U g mk q => by obtain ⟨q0, q1, qP, qK, qD⟩ := q; exact ⟨q0, q1, qP, va_K.moved (u := U) (U := U.calling g mk a) (Vm.Alike.refl U.vm) qK, qD⟩, va_recv hKc hPc (ci := 10) (q0 := 0) rfl rfl, fun U hU hW => ⟨rfl, by rw [hU], by rw [hU]; exact hPc, va_K.moved hW.alike hKc, hDc.weaken (fun _ _ _ _ => trivial)⟩⟩ rfl rfl hl.1 rfl (lv_room (Nat.le_of_ble_eq_true rfl)) dX3_readTerm_45 ⟨Nat.le_of_ble_eq_true rfl, Nat.le_of_ble_eq_true rfl⟩) hS (fun q _ h => hFc q h) hFc (fun u t H1 locs ht hvm hwra127 hB hz1 hk1 hS => ?_)
            obtain ⟨x128, hP1, hK1, hD1⟩ := hB
            rw [ht] at hP1
            obtain ⟨hP, hD⟩ := va_join (wr := (wd_6b0d8e05 h0 h1 h3 x111 h2 g0 f5 h3 g1 fn115)) (w1 := (wd_09b0abee h1 h2 v1 x128 x113 x114)) hP hD [1] [0, 2, 3] rfl rfl (by decide) (by decide) hk1 hFc hP1 hD1
            generalize H1 = H at hP hS ⊢
            have hP := hP.sub (ws' := (wd_1ad0248d h0 h1 h3 x111 h1 h2 v1 x128 x113 x114 h2 g0 f5 h3 g1 fn115)) [0, 3, 1, 2] rfl
            have hD := hD.sub (ws' := (wd_1ad0248d h0 h1 h3 x111 h1 h2 v1 x128 x113 x114 h2 g0 f5 h3 g1 fn115)) [0, 3, 1, 2] (by decide) rfl
            have hP : va_P (dC, dI) vwCl (wd_1ad0248d h0 h1 h3 x111 h1 h2 v1 x128 x113 x114 h2 g0 f5 h3 g1 fn115) H := hP
            have hD : va_D A (wd_1ad0248d h0 h1 h3 x111 h1 h2 v1 x128 x113 x114 h2 g0 f5 h3 g1 fn115) := hD
            refine lv_aload_n hx hb dX3_readTerm_48 rfl (lv_at hl 2 rfl) ?_
            refine lv_iload_n hx hb dX3_readTerm_49 rfl (lv_at hl 3 rfl) ?_
            have hPc := hP.sub (ws' := (wd_1ad0248d h0 h1 h3 x111 h1 h2 v1 x128 x113 x114 h2 g0 f5 h3 g1 fn115)) [0, 1, 2, 3] rfl
            have hDc := hD.sub (ws' := (wd_1ad0248d h0 h1 h3 x111 h1 h2 v1 x128 x113 x114 h2 g0 f5 h3 g1 fn115)) [0, 1, 2, 3] (by decide) rfl
            have hKc := hK.sub (tys' := [(g0, .int), (g1, .int)]) [0, 1] rfl
            have hFc := va_free (wc := (wd_1ad0248d h0 h1 h3 x111 h1 h2 v1 x128 x113 x114 h2 g0 f5 h3 g1 fn115)) hD hS hA [0, 1, 2, 3] rfl
            refine va_calli (va_runV (As := [.int 2]) (rest := []) ⟨hx, hb, hml, hown, hts⟩ (k_X3_readAtom_4 l dC dI adK adV h0 h1 h2 h3 x111 v1 x128 x113 x114 g0 f5 g1 fn115 ⟨by first | omega | decide, by first | omega | decide⟩ ⟨by first | omega | decide, by first | omega | decide⟩ H.size) (cwV 1 hts g_X3_readTerm_4_0 rfl rfl rfl (by decide +kernel) ⟨Nat.le_of_ble_eq_true rfl, Nat.le_of_ble_eq_true rfl⟩) ⟨fun a U g mk q => by obtain ⟨q0, q1, qP, qK, qD, n0, n1, n2⟩ := q; exact ⟨q0, q1, qP, va_K.moved (u := U) (U := U.calling g mk a) (Vm.Alike.refl U.vm) qK, qD, vk_R.same rfl n0, va_Z.moved (Vm.Alike.refl _) n1, vk_S.moved (Vm.Alike.refl _) n2⟩, va_recv hKc hPc (ci := 3) (q0 := 0) rfl rfl, fun U hU hW => ⟨rfl, by rw [hU], by rw [hU]; exact hPc, va_K.moved hW.alike hKc, hDc.weaken (fun _ _ _ _ => trivial), vk_R.warm hW h_vr_2, (by rw [hU]; exact (va_Z.moved hW.alike (va_Z.kept h_st_CS hS.2.1)).narrow hFc), (by rw [hU]; exact (vk_S.moved hW.alike (vk_S.kept h_st_S hS.2.1)).narrow hFc)⟩⟩ rfl rfl hl.1 rfl (lv_room (Nat.le_of_ble_eq_true rfl)) dX3_readTerm_50 ⟨Nat.le_of_ble_eq_true rfl, Nat.le_of_ble_eq_true rfl⟩) hS (fun q _ h => hFc q h) hFc (fun ra129 u t H1 locs ht hvm hwra129 hB hz1 hk1 hS => ?_)
            obtain ⟨x130, x131, x132, x133, fn134, oa_x130, ob_x130, hP1, hK1, hD1⟩ := hB
            rw [ht] at hP1
            obtain ⟨hP, hD⟩ := va_join (wr := []) (w1 := (wd_1ad0248d h0 h1 h3 x130 h1 h2 v1 x131 x132 x133 h2 g0 f5 h3 g1 fn134)) hP hD [0, 1, 2, 3] [] rfl rfl (by decide) (by decide) hk1 hFc hP1 hD1
            generalize H1 = H at hP hS ⊢
            have hP : va_P (dC, dI) vwCl (wd_1ad0248d h0 h1 h3 x130 h1 h2 v1 x131 x132 x133 h2 g0 f5 h3 g1 fn134) H := hP
            have hD : va_D A (wd_1ad0248d h0 h1 h3 x130 h1 h2 v1 x131 x132 x133 h2 g0 f5 h3 g1 fn134) := hD
            obtain ⟨wa_ra129, wb_ra129⟩ := hwra129
            have wa_ra129 : 0 ≤ ra129.toInt := wa_ra129
            have wb_ra129 : ra129.toInt ≤ 1 := wb_ra129
            refine lv_if_ne (tgt := 58) hx hb dX3_readTerm_53 (by decide) (fun c135 => ?_) (fun c135 => ?_)
            · skip
              have fc135 : ¬ (ra129.toInt = 0) := fun h9 => c135 (Int32.toInt_inj.mp h9)
              refine lv_aload_n hx hb dX3_readTerm_58 rfl (lv_at hl 2 rfl) ?_
              refine lv_iload_n hx hb dX3_readTerm_59 rfl (lv_at hl 0 rfl) ?_
              refine lv_bipush (v := 42) hx hb dX3_readTerm_60 (by decide) ?_
              refine lv_icmp_ne (tgt := 69) hx hb dX3_readTerm_62 (by decide) (fun c136 => by exfalso; have fc136 : ¬ (ra124.toInt = 42) := fun h9 => c136 (Int32.toInt_inj.mp h9); omega) (fun _ => ?_)
              refine lv_iconst (v := 4) hx hb dX3_readTerm_65 (by decide) ?_
              refine lv_goto (tgt := 70) hx hb dX3_readTerm_66 (by decide) ?_
              refine lv_iconst (v := 0) hx hb dX3_readTerm_70 (by decide) ?_
              have hPc := hP.sub (ws' := (wd_b958b9da h0 h1 h3 x130 h3 g1 fn134)) [0, 3] rfl
              have hDc := hD.sub (ws' := (wd_b958b9da h0 h1 h3 x130 h3 g1 fn134)) [0, 3] (by decide) rfl
              have hKc := hK.sub (tys' := [(g1, .int)]) [1] rfl
              have hFc := va_free (wc := (wd_b958b9da h0 h1 h3 x130 h3 g1 fn134)) hD hS hA [0, 3] rfl
              refine va_callv (va_runV (As := [.int 4, .int 0]) (rest := []) ⟨hx, hb, hml, hown, hts⟩ (k_X3_write l dC dI h0 h3 h1 x130 g1 fn134 4 0 ⟨by first | omega | decide, by first | omega | decide⟩ H.size) (cwV 2 hts g_X3_readTerm_4_4 rfl rfl rfl (by decide +kernel) ⟨Nat.le_of_ble_eq_true rfl, Nat.le_of_ble_eq_true rfl⟩) ⟨fun a U g mk q => by obtain ⟨q0, q1, qP, qK, qD⟩ := q; exact ⟨q0, q1, qP, va_K.moved (u := U) (U := U.calling g mk a) (Vm.Alike.refl U.vm) qK, qD⟩, va_recv hKc hPc (ci := 3) (q0 := 0) rfl rfl, fun U hU hW => ⟨rfl, by rw [hU], by rw [hU]; exact hPc, va_K.moved hW.alike hKc, hDc.weaken (fun _ _ _ _ => trivial)⟩⟩ rfl rfl hl.1 rfl (lv_room (Nat.le_of_ble_eq_true rfl)) dX3_readTerm_71 ⟨Nat.le_of_ble_eq_true rfl, Nat.le_of_ble_eq_true rfl⟩) hS (fun q _ h => hFc q h) hFc (fun u t H1 locs ht hvm hwra137 hB hz1 hk1 hS => ?_)
              obtain ⟨x138, fn139, oa_x138, ob_x138, hP1, hK1, hD1⟩ := hB
              rw [ht] at hP1
              obtain ⟨hP, hD⟩ := va_join (wr := (wd_82cdd16b h1 h2 v1 x131 x132 x133 h2 g0 f5)) (w1 := (wd_b958b9da h0 h1 h3 x138 h3 g1 fn139)) hP hD [0, 3] [1, 2] rfl rfl (by decide) (by decide) hk1 hFc hP1 hD1
              generalize H1 = H at hP hS ⊢
              have hP := hP.sub (ws' := (wd_1ad0248d h0 h1 h3 x138 h1 h2 v1 x131 x132 x133 h2 g0 f5 h3 g1 fn139)) [2, 0, 1, 3] rfl
              have hD := hD.sub (ws' := (wd_1ad0248d h0 h1 h3 x138 h1 h2 v1 x131 x132 x133 h2 g0 f5 h3 g1 fn139)) [2, 0, 1, 3] (by decide) rfl
              have hP : va_P (dC, dI) vwCl (wd_1ad0248d h0 h1 h3 x138 h1 h2 v1 x131 x132 x133 h2 g0 f5 h3 g1 fn139) H := hP
              have hD : va_D A (wd_1ad0248d h0 h1 h3 x138 h1 h2 v1 x131 x132 x133 h2 g0 f5 h3 g1 fn139) := hD
              obtain ⟨t140, et140⟩ : ∃ y : Int32, y = x110 + 1 := ⟨_, rfl⟩
              have gt140 : t140.toInt = x110.toInt + (1) := pv_add (a := x110.toInt) (b := (1)) et140 rfl (by decide) (by omega) (by omega)
              refine lv_iinc (v := t140) (lv' := [(2, .int t140), (3, .int ra124), (0, .ref h0), (1, .int 2)]) hx hb dX3_readTerm_74 hl (k := 1) rfl (by rw [et140]; rfl) (by decide) rfl (fun ls hl => ?_)
              refine lv_goto (tgt := 12) hx hb dX3_readTerm_77 (by decide) ?_
              exact ih_hL122 t140 x138 x131 x132 x133 fn139 H locs ls (by first | omega | decide) (by first | omega | decide) (by first | omega | decide) (by first | omega | decide) (by first | omega | (simp only [Int.toNat] at *; omega)) hP hD hS (lv_sub hl [0, 2, 3] rfl)
            · skip
              have fc135 : ra129.toInt = 0 := congrArg Int32.toInt c135
              refine lv_iconst (v := 0) hx hb dX3_readTerm_56 (by decide) ?_
              subst hQ
              have hP9 := hP.sub (ws' := (wd_1ad0248d h0 h1 h3 x130 h1 h2 v1 x131 x132 x133 h2 g0 f5 h3 g1 fn134)) [0, 1, 2, 3] rfl
              have hD9 := hD.sub (ws' := (wd_1ad0248d h0 h1 h3 x130 h1 h2 v1 x131 x132 x133 h2 g0 f5 h3 g1 fn134)) [0, 1, 2, 3] (by decide) rfl
              have hK9 := hK.sub (tys' := []) [] rfl
              exact W.zret (v := 0) hx hb hr rfl (fun t ht hW => ⟨⟨0, (), rfl, ⟨by first | omega | decide, by first | omega | decide⟩, x130, x131, x132, x133, fn134, by first | omega | decide, by first | omega | decide, by rw [ht]; exact hP9, va_K.moved hW.alike hK9, hD9⟩, hS.F ht⟩) hS.2.2 dX3_readTerm_57
          · skip
            have fc126 : ¬ (ra124.toInt = 42) := fun h9 => c126 (Int32.toInt_inj.mp h9)
            refine lv_iload_n hx hb dX3_readTerm_33 rfl (lv_at hl 0 rfl) ?_
            refine lv_bipush (v := 47) hx hb dX3_readTerm_34 (by decide) ?_
            refine lv_icmp_eq (tgt := 41) hx hb dX3_readTerm_36 (by decide) (fun c141 => ?_) (fun c141 => ?_)
            · skip
              have fc141 : ra124.toInt = 47 := congrArg Int32.toInt c141
              refine lv_aload_n hx hb dX3_readTerm_41 rfl (lv_at hl 2 rfl) ?_
              refine va_get (D := (dC, dI)) (ci := 3) (v := .ref h1) (C := RX3) (T := TX3) (N := 3) hx hb hts (fun _ h => List.mem_cons_of_mem _ (List.mem_append_left _ (List.mem_append_right _ h))) hown hK hP 0 rfl rfl 0 (by decide) (hts (.fieldLink RX3 19 "LeftArguments$LawReader" "tape" "LLeftArguments$Tape;") (List.mem_cons_of_mem _ (List.mem_append_left _ (List.mem_append_left _ (List.mem_of_getElem? (i := 1) rfl))))) (fun _ h9 => h9) rfl dX3_readTerm_42 ?_
              have hPc := hP.sub (ws' := (wd_09b0abee h1 h2 v1 x125 x113 x114)) [1] rfl
              have hDc := hD.sub (ws' := (wd_09b0abee h1 h2 v1 x125 x113 x114)) [1] (by decide) rfl
              have hKc := hK.sub (tys' := []) [] rfl
              have hFc := va_free (wc := (wd_09b0abee h1 h2 v1 x125 x113 x114)) hD hS hA [1] rfl
              refine va_callv (va_runV (As := []) (rest := []) ⟨hx, hb, hml, hown, hts⟩ (k_X10_step l dC dI h1 h2 v1 x125 x113 x114 ⟨by first | omega | decide, by first | omega | decide⟩ H.size) (cwV 0 hts g_X3_readTerm_4_2 rfl rfl rfl (by decide +kernel) ⟨Nat.le_of_ble_eq_true rfl, Nat.le_of_ble_eq_true rfl⟩) ⟨fun a U g mk q => by obtain ⟨q0, q1, qP, qK, qD⟩ := q; exact ⟨q0, q1, qP, va_K.moved (u := U) (U := U.calling g mk a) (Vm.Alike.refl U.vm) qK, qD⟩, va_recv hKc hPc (ci := 10) (q0 := 0) rfl rfl, fun U hU hW => ⟨rfl, by rw [hU], by rw [hU]; exact hPc, va_K.moved hW.alike hKc, hDc.weaken (fun _ _ _ _ => trivial)⟩⟩ rfl rfl hl.1 rfl (lv_room (Nat.le_of_ble_eq_true rfl)) dX3_readTerm_45 ⟨Nat.le_of_ble_eq_true rfl, Nat.le_of_ble_eq_true rfl⟩) hS (fun q _ h => hFc q h) hFc (fun u t H1 locs ht hvm hwra142 hB hz1 hk1 hS => ?_)
              obtain ⟨x143, hP1, hK1, hD1⟩ := hB
              rw [ht] at hP1
              obtain ⟨hP, hD⟩ := va_join (wr := (wd_6b0d8e05 h0 h1 h3 x111 h2 g0 f5 h3 g1 fn115)) (w1 := (wd_09b0abee h1 h2 v1 x143 x113 x114)) hP hD [1] [0, 2, 3] rfl rfl (by decide) (by decide) hk1 hFc hP1 hD1
              generalize H1 = H at hP hS ⊢
              have hP := hP.sub (ws' := (wd_1ad0248d h0 h1 h3 x111 h1 h2 v1 x143 x113 x114 h2 g0 f5 h3 g1 fn115)) [0, 3, 1, 2] rfl
              have hD := hD.sub (ws' := (wd_1ad0248d h0 h1 h3 x111 h1 h2 v1 x143 x113 x114 h2 g0 f5 h3 g1 fn115)) [0, 3, 1, 2] (by decide) rfl
              have hP : va_P (dC, dI) vwCl (wd_1ad0248d h0 h1 h3 x111 h1 h2 v1 x143 x113 x114 h2 g0 f5 h3 g1 fn115) H := hP
              have hD : va_D A (wd_1ad0248d h0 h1 h3 x111 h1 h2 v1 x143 x113 x114 h2 g0 f5 h3 g1 fn115) := hD
              refine lv_aload_n hx hb dX3_readTerm_48 rfl (lv_at hl 2 rfl) ?_
              refine lv_iload_n hx hb dX3_readTerm_49 rfl (lv_at hl 3 rfl) ?_
              have hPc := hP.sub (ws' := (wd_1ad0248d h0 h1 h3 x111 h1 h2 v1 x143 x113 x114 h2 g0 f5 h3 g1 fn115)) [0, 1, 2, 3] rfl
              have hDc := hD.sub (ws' := (wd_1ad0248d h0 h1 h3 x111 h1 h2 v1 x143 x113 x114 h2 g0 f5 h3 g1 fn115)) [0, 1, 2, 3] (by decide) rfl
              have hKc := hK.sub (tys' := [(g0, .int), (g1, .int)]) [0, 1] rfl
              have hFc := va_free (wc := (wd_1ad0248d h0 h1 h3 x111 h1 h2 v1 x143 x113 x114 h2 g0 f5 h3 g1 fn115)) hD hS hA [0, 1, 2, 3] rfl
              refine va_calli (va_runV (As := [.int 2]) (rest := []) ⟨hx, hb, hml, hown, hts⟩ (k_X3_readAtom_4 l dC dI adK adV h0 h1 h2 h3 x111 v1 x143 x113 x114 g0 f5 g1 fn115 ⟨by first | omega | decide, by first | omega | decide⟩ ⟨by first | omega | decide, by first | omega | decide⟩ H.size) (cwV 1 hts g_X3_readTerm_4_0 rfl rfl rfl (by decide +kernel) ⟨Nat.le_of_ble_eq_true rfl, Nat.le_of_ble_eq_true rfl⟩) ⟨fun a U g mk q => by obtain ⟨q0, q1, qP, qK, qD, n0, n1, n2⟩ := q; exact ⟨q0, q1, qP, va_K.moved (u := U) (U := U.calling g mk a) (Vm.Alike.refl U.vm) qK, qD, vk_R.same rfl n0, va_Z.moved (Vm.Alike.refl _) n1, vk_S.moved (Vm.Alike.refl _) n2⟩, va_recv hKc hPc (ci := 3) (q0 := 0) rfl rfl, fun U hU hW => ⟨rfl, by rw [hU], by rw [hU]; exact hPc, va_K.moved hW.alike hKc, hDc.weaken (fun _ _ _ _ => trivial), vk_R.warm hW h_vr_2, (by rw [hU]; exact (va_Z.moved hW.alike (va_Z.kept h_st_CS hS.2.1)).narrow hFc), (by rw [hU]; exact (vk_S.moved hW.alike (vk_S.kept h_st_S hS.2.1)).narrow hFc)⟩⟩ rfl rfl hl.1 rfl (lv_room (Nat.le_of_ble_eq_true rfl)) dX3_readTerm_50 ⟨Nat.le_of_ble_eq_true rfl, Nat.le_of_ble_eq_true rfl⟩) hS (fun q _ h => hFc q h) hFc (fun ra144 u t H1 locs ht hvm hwra144 hB hz1 hk1 hS => ?_)
              obtain ⟨x145, x146, x147, x148, fn149, oa_x145, ob_x145, hP1, hK1, hD1⟩ := hB
              rw [ht] at hP1
              obtain ⟨hP, hD⟩ := va_join (wr := []) (w1 := (wd_1ad0248d h0 h1 h3 x145 h1 h2 v1 x146 x147 x148 h2 g0 f5 h3 g1 fn149)) hP hD [0, 1, 2, 3] [] rfl rfl (by decide) (by decide) hk1 hFc hP1 hD1
              generalize H1 = H at hP hS ⊢
              have hP : va_P (dC, dI) vwCl (wd_1ad0248d h0 h1 h3 x145 h1 h2 v1 x146 x147 x148 h2 g0 f5 h3 g1 fn149) H := hP
              have hD : va_D A (wd_1ad0248d h0 h1 h3 x145 h1 h2 v1 x146 x147 x148 h2 g0 f5 h3 g1 fn149) := hD
              obtain ⟨wa_ra144, wb_ra144⟩ := hwra144
              have wa_ra144 : 0 ≤ ra144.toInt := wa_ra144
              have wb_ra144 : ra144.toInt ≤ 1 := wb_ra144
              refine lv_if_ne (tgt := 58) hx hb dX3_readTerm_53 (by decide) (fun c150 => ?_) (fun c150 => ?_)
              · skip
                have fc150 : ¬ (ra144.toInt = 0) := fun h9 => c150 (Int32.toInt_inj.mp h9)
                refine lv_aload_n hx hb dX3_readTerm_58 rfl (lv_at hl 2 rfl) ?_
                refine lv_iload_n hx hb dX3_readTerm_59 rfl (lv_at hl 0 rfl) ?_
                refine lv_bipush (v := 42) hx hb dX3_readTerm_60 (by decide) ?_
                refine lv_icmp_ne (tgt := 69) hx hb dX3_readTerm_62 (by decide) (fun _ => ?_) (fun c151 => by exfalso; have fc151 : ra124.toInt = 42 := congrArg Int32.toInt c151; omega)
                refine lv_iconst (v := 5) hx hb dX3_readTerm_69 (by decide) ?_
                refine lv_iconst (v := 0) hx hb dX3_readTerm_70 (by decide) ?_
                have hPc := hP.sub (ws' := (wd_b958b9da h0 h1 h3 x145 h3 g1 fn149)) [0, 3] rfl
                have hDc := hD.sub (ws' := (wd_b958b9da h0 h1 h3 x145 h3 g1 fn149)) [0, 3] (by decide) rfl
                have hKc := hK.sub (tys' := [(g1, .int)]) [1] rfl
                have hFc := va_free (wc := (wd_b958b9da h0 h1 h3 x145 h3 g1 fn149)) hD hS hA [0, 3] rfl
                refine va_callv (va_runV (As := [.int 5, .int 0]) (rest := []) ⟨hx, hb, hml, hown, hts⟩ (k_X3_write l dC dI h0 h3 h1 x145 g1 fn149 5 0 ⟨by first | omega | decide, by first | omega | decide⟩ H.size) (cwV 2 hts g_X3_readTerm_4_4 rfl rfl rfl (by decide +kernel) ⟨Nat.le_of_ble_eq_true rfl, Nat.le_of_ble_eq_true rfl⟩) ⟨fun a U g mk q => by obtain ⟨q0, q1, qP, qK, qD⟩ := q; exact ⟨q0, q1, qP, va_K.moved (u := U) (U := U.calling g mk a) (Vm.Alike.refl U.vm) qK, qD⟩, va_recv hKc hPc (ci := 3) (q0 := 0) rfl rfl, fun U hU hW => ⟨rfl, by rw [hU], by rw [hU]; exact hPc, va_K.moved hW.alike hKc, hDc.weaken (fun _ _ _ _ => trivial)⟩⟩ rfl rfl hl.1 rfl (lv_room (Nat.le_of_ble_eq_true rfl)) dX3_readTerm_71 ⟨Nat.le_of_ble_eq_true rfl, Nat.le_of_ble_eq_true rfl⟩) hS (fun q _ h => hFc q h) hFc (fun u t H1 locs ht hvm hwra152 hB hz1 hk1 hS => ?_)
                obtain ⟨x153, fn154, oa_x153, ob_x153, hP1, hK1, hD1⟩ := hB
                rw [ht] at hP1
                obtain ⟨hP, hD⟩ := va_join (wr := (wd_82cdd16b h1 h2 v1 x146 x147 x148 h2 g0 f5)) (w1 := (wd_b958b9da h0 h1 h3 x153 h3 g1 fn154)) hP hD [0, 3] [1, 2] rfl rfl (by decide) (by decide) hk1 hFc hP1 hD1
                generalize H1 = H at hP hS ⊢
                have hP := hP.sub (ws' := (wd_1ad0248d h0 h1 h3 x153 h1 h2 v1 x146 x147 x148 h2 g0 f5 h3 g1 fn154)) [2, 0, 1, 3] rfl
                have hD := hD.sub (ws' := (wd_1ad0248d h0 h1 h3 x153 h1 h2 v1 x146 x147 x148 h2 g0 f5 h3 g1 fn154)) [2, 0, 1, 3] (by decide) rfl
                have hP : va_P (dC, dI) vwCl (wd_1ad0248d h0 h1 h3 x153 h1 h2 v1 x146 x147 x148 h2 g0 f5 h3 g1 fn154) H := hP
                have hD : va_D A (wd_1ad0248d h0 h1 h3 x153 h1 h2 v1 x146 x147 x148 h2 g0 f5 h3 g1 fn154) := hD
                obtain ⟨t155, et155⟩ : ∃ y : Int32, y = x110 + 1 := ⟨_, rfl⟩
                have gt155 : t155.toInt = x110.toInt + (1) := pv_add (a := x110.toInt) (b := (1)) et155 rfl (by decide) (by omega) (by omega)
                refine lv_iinc (v := t155) (lv' := [(2, .int t155), (3, .int ra124), (0, .ref h0), (1, .int 2)]) hx hb dX3_readTerm_74 hl (k := 1) rfl (by rw [et155]; rfl) (by decide) rfl (fun ls hl => ?_)
                refine lv_goto (tgt := 12) hx hb dX3_readTerm_77 (by decide) ?_
                exact ih_hL122 t155 x153 x146 x147 x148 fn154 H locs ls (by first | omega | decide) (by first | omega | decide) (by first | omega | decide) (by first | omega | decide) (by first | omega | (simp only [Int.toNat] at *; omega)) hP hD hS (lv_sub hl [0, 2, 3] rfl)
              · skip
                have fc150 : ra144.toInt = 0 := congrArg Int32.toInt c150
                refine lv_iconst (v := 0) hx hb dX3_readTerm_56 (by decide) ?_
                subst hQ
                have hP9 := hP.sub (ws' := (wd_1ad0248d h0 h1 h3 x145 h1 h2 v1 x146 x147 x148 h2 g0 f5 h3 g1 fn149)) [0, 1, 2, 3] rfl
                have hD9 := hD.sub (ws' := (wd_1ad0248d h0 h1 h3 x145 h1 h2 v1 x146 x147 x148 h2 g0 f5 h3 g1 fn149)) [0, 1, 2, 3] (by decide) rfl
                have hK9 := hK.sub (tys' := []) [] rfl
                exact W.zret (v := 0) hx hb hr rfl (fun t ht hW => ⟨⟨0, (), rfl, ⟨by first | omega | decide, by first | omega | decide⟩, x145, x146, x147, x148, fn149, by first | omega | decide, by first | omega | decide, by rw [ht]; exact hP9, va_K.moved hW.alike hK9, hD9⟩, hS.F ht⟩) hS.2.2 dX3_readTerm_57
            · skip
              have fc141 : ¬ (ra124.toInt = 47) := fun h9 => c141 (Int32.toInt_inj.mp h9)
              refine lv_iconst (v := 1) hx hb dX3_readTerm_39 (by decide) ?_
              subst hQ
              have hP9 := hP.sub (ws' := (wd_1ad0248d h0 h1 h3 x111 h1 h2 v1 x125 x113 x114 h2 g0 f5 h3 g1 fn115)) [0, 1, 2, 3] rfl
              have hD9 := hD.sub (ws' := (wd_1ad0248d h0 h1 h3 x111 h1 h2 v1 x125 x113 x114 h2 g0 f5 h3 g1 fn115)) [0, 1, 2, 3] (by decide) rfl
              have hK9 := hK.sub (tys' := []) [] rfl
              exact W.zret (v := 1) hx hb hr rfl (fun t ht hW => ⟨⟨1, (), rfl, ⟨by first | omega | decide, by first | omega | decide⟩, x111, x125, x113, x114, fn115, by first | omega | decide, by first | omega | decide, by rw [ht]; exact hP9, va_K.moved hW.alike hK9, hD9⟩, hS.F ht⟩) hS.2.2 dX3_readTerm_40
    exact hL122 _ 0 x2 x3 x4 x5 fn6 H locs ls (by first | omega | decide) (by first | omega | decide) (by first | omega | decide) (by first | omega | decide) (Nat.lt_succ_self _) hP hD hS (lv_sub hl [0, 1, 2] rfl)
  · skip
    have fc7 : ra1.toInt = 0 := congrArg Int32.toInt c7
    refine lv_iconst (v := 0) hx hb dX3_readTerm_8 (by decide) ?_
    subst hQ
    have hP9 := hP.sub (ws' := (wd_1ad0248d h0 h1 h3 x2 h1 h2 v1 x3 x4 x5 h2 g0 f5 h3 g1 fn6)) [0, 1, 2, 3] rfl
    have hD9 := hD.sub (ws' := (wd_1ad0248d h0 h1 h3 x2 h1 h2 v1 x3 x4 x5 h2 g0 f5 h3 g1 fn6)) [0, 1, 2, 3] (by decide) rfl
    have hK9 := hK.sub (tys' := []) [] rfl
    exact W.zret (v := 0) hx hb hr rfl (fun t ht hW => ⟨⟨0, (), rfl, ⟨by first | omega | decide, by first | omega | decide⟩, x2, x3, x4, x5, fn6, by first | omega | decide, by first | omega | decide, by rw [ht]; exact hP9, va_K.moved hW.alike hK9, hD9⟩, hS.F ht⟩) hS.2.2 dX3_readTerm_9
