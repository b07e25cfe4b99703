abbrev wd_1ad0248d (p0 : Nat) (p1 : Nat) (p2 : Nat) (p3 : Int32) (p4 : Nat) (p5 : Nat) (p6 : Int32) (p7 : Int32) (p8 : Int32) (p9 : Int32) (p10 : Nat) (p11 : ClassId) (p12 : Nat → Int32) (p13 : Nat) (p14 : ClassId) (p15 : Nat → Int32) : va_W := [(p0, .inr (3, [.ref p1, .ref p2, .int p3])), (p4, .inr (10, [.ref p5, .int p6, .int p7, .int p8, .int p9])), (p10, .inl (p11, 240, .inl p12)), (p13, .inl (p14, 256, .inl p15))]
abbrev wd_6b0d8e05 (p0 : Nat) (p1 : Nat) (p2 : Nat) (p3 : Int32) (p4 : Nat) (p5 : ClassId) (p6 : Nat → Int32) (p7 : Nat) (p8 : ClassId) (p9 : Nat → Int32) : va_W := [(p0, .inr (3, [.ref p1, .ref p2, .int p3])), (p4, .inl (p5, 240, .inl p6)), (p7, .inl (p8, 256, .inl p9))]
def q_X11_move : List Cond := .code yX11_move cX11_move 5 (some .int) :: (([.fieldLink RX11 49 "LeftArguments" "room" "LLeftArguments$Room;", .code yX7_has cX7_has 2 (some .boolean), .fieldLink RX7 11 "LeftArguments$Room" "cells" "[I", .initialized RX7, .instanceMethod yX7_has, .selects RX7 yX7_has yX7_has, .methodLink RX11 169 yX7_has, .code yX7_of cX7_of 3 (some .int), .instanceMethod yX7_of, .selects RX7 yX7_of yX7_of, .methodLink RX11 179 yX7_of, .fieldLink RX11 63 "LeftArguments" "acts" "LLeftArguments$Acts;", .code yX0_keep cX0_keep 2 none, .fieldLink RX0 11 "LeftArguments$Acts" "ring" "[I", .fieldLink RX0 15 "LeftArguments$Acts" "top" "I", .code yX7_copyTo cX7_copyTo 3 none, .methodLink RX7 52 arraycopyName, .native arraycopyName, .static arraycopyName, .initialized "java/lang/System", .instanceMethod yX7_copyTo, .selects RX7 yX7_copyTo yX7_copyTo, .methodLink RX0 22 yX7_copyTo, .fieldLink RX0 19 "LeftArguments$Acts" "number" "I", .methodLink RX0 26 Lib.Math.min.name, .static Lib.Math.min.name, .initialized "java/lang/Math", .code Lib.Math.min.name Lib.Math.min.code 2 (some .int), .initialized RX0, .instanceMethod yX0_keep, .selects RX0 yX0_keep yX0_keep, .methodLink RX11 232 yX0_keep, .code yX7_set cX7_set 4 none, .instanceMethod yX7_set, .selects RX7 yX7_set yX7_set, .methodLink RX11 257 yX7_set, .code yX11_refuse cX11_refuse 2 (some .int), .fieldLink RX11 96 "LeftArguments" "refused" "[I", .initialized RX11, .instanceMethod yX11_refuse, .selects RX11 yX11_refuse yX11_refuse, .methodLink RX11 229 yX11_refuse, .fieldLink RX11 42 "LeftArguments" "office" "LLeftArguments$Office;", .code yX5_hasShelf cX5_hasShelf 2 (some .boolean), .fieldLink RX5 11 "LeftArguments$Office" "rules" "[I", .initialized RX5, .instanceMethod yX5_hasShelf, .selects RX5 yX5_hasShelf yX5_hasShelf, .methodLink RX11 183 yX5_hasShelf, .code yX7_coins cX7_coins 1 (some .int), .instanceMethod yX7_coins, .selects RX7 yX7_coins yX7_coins, .methodLink RX11 163 yX7_coins, .code yX7_takes cX7_takes 4 (some .boolean), .code yX7_loadOn cX7_loadOn 4 (some .int), .instanceMethod yX7_loadOn, .selects RX7 yX7_loadOn yX7_loadOn, .methodLink RX7 67 yX7_loadOn, .code yX5_ruleOf cX5_ruleOf 2 (some .int), .instanceMethod yX5_ruleOf, .selects RX5 yX5_ruleOf yX5_ruleOf, .methodLink RX7 30 yX5_ruleOf, .instanceMethod yX7_takes, .selects RX7 yX7_takes yX7_takes, .methodLink RX11 246 yX7_takes, .code yX7_gain cX7_gain 2 none, .methodLink RX7 62 Lib.Math.min.name, .instanceMethod yX7_gain, .selects RX7 yX7_gain yX7_gain, .methodLink RX11 261 yX7_gain] : List Cond) ++ wsX110 ++ wsX70 ++ wsX00 ++ wsX50)
set_option maxRecDepth 20000 in
theorem g_X11_move_0 : GoodIn q_X11_move (wsV RX11 169 RX7 yX7_has q_X7_has) := goodIn_app (goodIn_r _ [7, 5, 6, 4] rfl (by decide +kernel)) (goodIn_ca (goodIn_r (.code yX7_has cX7_has 2 (some .boolean) :: [.fieldLink RX7 11 "LeftArguments$Room" "cells" "[I"]) [2, 3] rfl (by decide +kernel)) (goodIn_sub (fun _ h => List.mem_cons_of_mem _ (List.mem_append_left _ (List.mem_append_left _ (List.mem_append_right _ h)))) gwX7))
set_option maxRecDepth 20000 in
theorem g_X11_move_1 : GoodIn q_X11_move (wsV RX11 179 RX7 yX7_of q_X7_of) := goodIn_app (goodIn_r _ [11, 9, 10, 4] rfl (by decide +kernel)) (goodIn_ca (goodIn_r (.code yX7_of cX7_of 3 (some .int) :: [.fieldLink RX7 11 "LeftArguments$Room" "cells" "[I"]) [8, 3] rfl (by decide +kernel)) (goodIn_sub (fun _ h => List.mem_cons_of_mem _ (List.mem_append_left _ (List.mem_append_left _ (List.mem_append_right _ h)))) gwX7))
set_option maxRecDepth 20000 in
theorem g_X11_move_2 : GoodIn q_X11_move (wsV RX11 232 RX0 yX0_keep q_X0_keep) := goodIn_app (goodIn_r _ [32, 30, 31, 29] rfl (by decide +kernel)) (goodIn_ca (goodIn_ca (goodIn_r (.code yX0_keep cX0_keep 2 none :: [.fieldLink RX0 11 "LeftArguments$Acts" "ring" "[I", .fieldLink RX0 15 "LeftArguments$Acts" "top" "I", .code yX7_copyTo cX7_copyTo 3 none, .fieldLink RX7 11 "LeftArguments$Room" "cells" "[I", .methodLink RX7 52 arraycopyName, .native arraycopyName, .static arraycopyName, .initialized "java/lang/System", .initialized RX7, .instanceMethod yX7_copyTo, .selects RX7 yX7_copyTo yX7_copyTo, .methodLink RX0 22 yX7_copyTo, .fieldLink RX0 19 "LeftArguments$Acts" "number" "I", .methodLink RX0 26 Lib.Math.min.name, .static Lib.Math.min.name, .initialized "java/lang/Math", .code Lib.Math.min.name Lib.Math.min.code 2 (some .int)]) [13, 14, 15, 16, 3, 17, 18, 19, 20, 4, 21, 22, 23, 24, 25, 26, 27, 28] rfl (by decide +kernel)) (goodIn_sub (fun _ h => List.mem_cons_of_mem _ (List.mem_append_left _ (List.mem_append_right _ h))) gwX0)) (goodIn_sub (fun _ h => List.mem_cons_of_mem _ (List.mem_append_left _ (List.mem_append_left _ (List.mem_append_right _ h)))) gwX7))
set_option maxRecDepth 20000 in
theorem g_X11_move_3 : GoodIn q_X11_move (wsV RX11 257 RX7 yX7_set q_X7_set) := goodIn_app (goodIn_r _ [36, 34, 35, 4] rfl (by decide +kernel)) (goodIn_ca (goodIn_r (.code yX7_set cX7_set 4 none :: [.fieldLink RX7 11 "LeftArguments$Room" "cells" "[I"]) [33, 3] rfl (by decide +kernel)) (goodIn_sub (fun _ h => List.mem_cons_of_mem _ (List.mem_append_left _ (List.mem_append_left _ (List.mem_append_right _ h)))) gwX7))
set_option maxRecDepth 20000 in
theorem g_X11_move_4 : GoodIn q_X11_move (wsV RX11 229 RX11 yX11_refuse q_X11_refuse) := goodIn_app (goodIn_r _ [42, 40, 41, 39] rfl (by decide +kernel)) (goodIn_ca (goodIn_r (.code yX11_refuse cX11_refuse 2 (some .int) :: [.fieldLink RX11 96 "LeftArguments" "refused" "[I"]) [37, 38] rfl (by decide +kernel)) (goodIn_sub (fun _ h => List.mem_cons_of_mem _ (List.mem_append_left _ (List.mem_append_left _ (List.mem_append_left _ (List.mem_append_right _ h))))) gwX11))
set_option maxRecDepth 20000 in
theorem g_X11_move_5 : GoodIn q_X11_move (wsV RX11 183 RX5 yX5_hasShelf q_X5_hasShelf) := goodIn_app (goodIn_r _ [49, 47, 48, 46] rfl (by decide +kernel)) (goodIn_ca (goodIn_r (.code yX5_hasShelf cX5_hasShelf 2 (some .boolean) :: [.fieldLink RX5 11 "LeftArguments$Office" "rules" "[I"]) [44, 45] rfl (by decide +kernel)) (goodIn_sub (fun _ h => List.mem_cons_of_mem _ (List.mem_append_right _ h)) gwX5))
set_option maxRecDepth 20000 in
theorem g_X11_move_9 : GoodIn q_X11_move (wsV RX11 163 RX7 yX7_coins q_X7_coins) := goodIn_app (goodIn_r _ [53, 51, 52, 4] rfl (by decide +kernel)) (goodIn_ca (goodIn_r (.code yX7_coins cX7_coins 1 (some .int) :: [.fieldLink RX7 11 "LeftArguments$Room" "cells" "[I"]) [50, 3] rfl (by decide +kernel)) (goodIn_sub (fun _ h => List.mem_cons_of_mem _ (List.mem_append_left _ (List.mem_append_left _ (List.mem_append_right _ h)))) gwX7))
set_option maxRecDepth 20000 in
theorem g_X11_move_12 : GoodIn q_X11_move (wsV RX11 246 RX7 yX7_takes q_X7_takes) := goodIn_app (goodIn_r _ [65, 63, 64, 4] rfl (by decide +kernel)) (goodIn_ca (goodIn_ca (goodIn_r (.code yX7_takes cX7_takes 4 (some .boolean) :: [.code yX7_loadOn cX7_loadOn 4 (some .int), .fieldLink RX7 11 "LeftArguments$Room" "cells" "[I", .initialized RX7, .instanceMethod yX7_loadOn, .selects RX7 yX7_loadOn yX7_loadOn, .methodLink RX7 67 yX7_loadOn, .code yX5_ruleOf cX5_ruleOf 2 (some .int), .fieldLink RX5 11 "LeftArguments$Office" "rules" "[I", .initialized RX5, .instanceMethod yX5_ruleOf, .selects RX5 yX5_ruleOf yX5_ruleOf, .methodLink RX7 30 yX5_ruleOf]) [54, 55, 3, 4, 56, 57, 58, 59, 45, 46, 60, 61, 62] rfl (by decide +kernel)) (goodIn_sub (fun _ h => List.mem_cons_of_mem _ (List.mem_append_left _ (List.mem_append_left _ (List.mem_append_right _ h)))) gwX7)) (goodIn_sub (fun _ h => List.mem_cons_of_mem _ (List.mem_append_right _ h)) gwX5))
set_option maxRecDepth 20000 in
theorem g_X11_move_15 : GoodIn q_X11_move (wsV RX11 261 RX7 yX7_gain q_X7_gain) := goodIn_app (goodIn_r _ [70, 68, 69, 4] rfl (by decide +kernel)) (goodIn_ca (goodIn_r (.code yX7_gain cX7_gain 2 none :: [.fieldLink RX7 11 "LeftArguments$Room" "cells" "[I", .methodLink RX7 62 Lib.Math.min.name, .static Lib.Math.min.name, .initialized "java/lang/Math", .code Lib.Math.min.name Lib.Math.min.code 2 (some .int)]) [66, 3, 67, 26, 27, 28] rfl (by decide +kernel)) (goodIn_sub (fun _ h => List.mem_cons_of_mem _ (List.mem_append_left _ (List.mem_append_left _ (List.mem_append_right _ h)))) gwX7))
set_option maxHeartbeats 4000000 in
set_option maxRecDepth 100000 in
theorem k_X11_move (l : Launch) (dC : Nat → ClassId) (dI : Nat → Nat → Nat) (h0 : Nat) (h1 : Nat) (h2 : Nat) (h3 : Nat) (h4 : Nat) (h5 : Nat) (h6 : Nat) (h7 : Nat) (r0 : Nat) (r1 : Nat) (r2 : Nat) (r3 : Nat) (r4 : Nat) (r5 : Nat) (r6 : Nat) (r7 : Nat) (r8 : Nat) (r9 : Nat) (v0 : Int32) (v1 : Int32) (w2 : Int64) (r10 : Nat) (v3 : Int32) (v4 : Int32) (g0 : ClassId) (f5 : Nat → Int32) (r11 : Nat) (v6 : Int32) (v7 : Int32) (g1 : ClassId) (f8 : Nat → Int32) (v9 : Int32) (v10 : Int32) (g2 : ClassId) (f11 : Nat → Int32) (g3 : ClassId) (f12 : Nat → Int32) (v13 : Int32) (v14 : Int32) (i_v0 : 0 ≤ v0.toInt ∧ v0.toInt ≤ 1) (i_v4 : 0 ≤ v4.toInt ∧ v4.toInt ≤ 1) (i_v9 : 0 ≤ v9.toInt ∧ v9.toInt ≤ 39) (i_v10 : 0 ≤ v10.toInt ∧ v10.toInt ≤ 40) (sz : Nat) : Met l yX11_move q_X11_move ({ frames := 3, cells := 0, slots := 0, locals := 103 }) (va_Pc [.ref h0, .int v13, .int v14] (fun U => U.heap.size = sz ∧ va_P (dC, dI) vwCl (wd_f86bdc86 h0 r0 r1 r2 r3 h1 h3 r4 h5 r5 r6 r7 r8 r9 h7 v0 v1 w2 h1 h2 r10 v3 v4 h2 g0 f5 h3 h4 r11 v6 v7 h4 g1 f8 h5 h6 v9 v10 h6 g2 f11 h7 g3 f12) U.heap ∧ va_K (dC, dI) vwCl [(g0, .int), (g1, .int), (g2, .int), (g3, .int)] U ∧ va_D (fun _ => True) (wd_f86bdc86 h0 r0 r1 r2 r3 h1 h3 r4 h5 r5 r6 r7 r8 r9 h7 v0 v1 w2 h1 h2 r10 v3 v4 h2 g0 f5 h3 h4 r11 v6 v7 h4 g1 f8 h5 h6 v9 v10 h6 g2 f11 h7 g3 f12))) (va_Qi (fun (r : Int32) (_ : Unit) => True) (fun (_ : Unit) (t : State) => ∃ (o_h4 : Nat → Int32) (o_h5_1 : Int32) (o_h5_2 : Int32) (o_h6 : Nat → Int32) (o_h7 : Nat → Int32), 0 ≤ o_h5_1.toInt ∧ o_h5_1.toInt ≤ 39 ∧ 0 ≤ o_h5_2.toInt ∧ o_h5_2.toInt ≤ 40 ∧ va_P (dC, dI) vwCl (wd_f86bdc86 h0 r0 r1 r2 r3 h1 h3 r4 h5 r5 r6 r7 r8 r9 h7 v0 v1 w2 h1 h2 r10 v3 v4 h2 g0 f5 h3 h4 r11 v6 v7 h4 g1 o_h4 h5 h6 o_h5_1 o_h5_2 h6 g2 o_h6 h7 g3 o_h7) t.heap ∧ va_K (dC, dI) vwCl [] t ∧ va_D (va_A (wd_f86bdc86 h0 r0 r1 r2 r3 h1 h3 r4 h5 r5 r6 r7 r8 r9 h7 v0 v1 w2 h1 h2 r10 v3 v4 h2 g0 f5 h3 h4 r11 v6 v7 h4 g1 f8 h5 h6 v9 v10 h6 g2 f11 h7 g3 f12) sz) (wd_f86bdc86 h0 r0 r1 r2 r3 h1 h3 r4 h5 r5 r6 r7 r8 r9 h7 v0 v1 w2 h1 h2 r10 v3 v4 h2 g0 f5 h3 h4 r11 v6 v7 h4 g1 o_h4 h5 h6 o_h5_1 o_h5_2 h6 g2 o_h6 h7 g3 o_h7)) (va_A (wd_f86bdc86 h0 r0 r1 r2 r3 h1 h3 r4 h5 r5 r6 r7 r8 r9 h7 v0 v1 w2 h1 h2 r10 v3 v4 h2 g0 f5 h3 h4 r11 v6 v7 h4 g1 f8 h5 h6 v9 v10 h6 g2 f11 h7 g3 f12) sz)) 0 0 (va_A (wd_f86bdc86 h0 r0 r1 r2 r3 h1 h3 r4 h5 r5 r6 r7 r8 r9 h7 v0 v1 w2 h1 h2 r10 v3 v4 h2 g0 f5 h3 h4 r11 v6 v7 h4 g1 f8 h5 h6 v9 v10 h6 g2 f11 h7 g3 f12) sz) := by
  refine Met.ofW (cc := cX11_move) (maxL := 5) (ret := (some .int)) (by decide) rfl ?_
  intro p e s m args below meth c s₁ B hml hv
  obtain ⟨i_v0a, i_v0b⟩ := i_v0
  obtain ⟨i_v4a, i_v4b⟩ := i_v4
  obtain ⟨i_v9a, i_v9b⟩ := i_v9
  obtain ⟨i_v10a, i_v10b⟩ := i_v10
  obtain ⟨rfl, hsz, hP, hK, hD0⟩ := hv
  have hx := B.exec
  have hb := B.bytes
  have hr := B.returns
  have hts := atoms_spec (ws := q_X11_move) B.pre
  have hown : s.vm.findClass RX11 = some m.cls := findClass_of_methodNamed B.named
  have hlocks := B.notSynchronized
  subst hsz
  have hD := hD0.self (sz := s.heap.size)
  generalize hAe : va_A (wd_f86bdc86 h0 r0 r1 r2 r3 h1 h3 r4 h5 r5 r6 r7 r8 r9 h7 v0 v1 w2 h1 h2 r10 v3 v4 h2 g0 f5 h3 h4 r11 v6 v7 h4 g1 f8 h5 h6 v9 v10 h6 g2 f11 h7 g3 f12) s.heap.size = A at hD ⊢
  have hA : ∀ q : Nat, s.heap.size ≤ q → A q := fun q h => by rw [← hAe]; exact Or.inr h
  have hS : va_S A s.heap s.heap [] := va_S.rf
  generalize hQ : (MQ below _ _ s 0 0 A) = Q
  have hl := lv_entry ([.ref h0, .int v13, .int v14]) (n := 5) (Nat.le_of_ble_eq_true rfl)
  rw [lg_entry_eq]
  generalize (lg_sl ([.ref h0, .int v13, .int v14]) ++ List.replicate (5 - (lg_sl ([.ref h0, .int v13, .int v14])).length) Slot.unset).toArray = ls at hl ⊢
  have hl : lv_has ls 5 [(0, .ref h0), (1, .int v13), (2, .int v14)] := hl
  obtain ⟨H, hH⟩ : ∃ H : Heap, H = s.heap := ⟨_, rfl⟩
  obtain ⟨locs, hlocs⟩ : ∃ y : List Loc, y = [] := ⟨_, rfl⟩
  have hS : va_S A s.heap H locs := by rw [hH, hlocs]; exact va_S.rf
  have hP : va_P (dC, dI) vwCl (wd_f86bdc86 h0 r0 r1 r2 r3 h1 h3 r4 h5 r5 r6 r7 r8 r9 h7 v0 v1 w2 h1 h2 r10 v3 v4 h2 g0 f5 h3 h4 r11 v6 v7 h4 g1 f8 h5 h6 v9 v10 h6 g2 f11 h7 g3 f12) H := by rw [hH]; exact hP
  rw [← hH, ← hlocs]
  refine lv_aload_n hx hb dX11_move_0 rfl (lv_at hl 0 rfl) ?_
  refine va_get (D := (dC, dI)) (ci := 11) (v := .ref h3) (C := RX11) (T := TX11) (N := 17) hx hb hts (fun _ h => List.mem_cons_of_mem _ (List.mem_append_left _ (List.mem_append_left _ (List.mem_append_left _ (List.mem_append_right _ h))))) hown hK hP 0 rfl rfl 5 (by decide) (hts (.fieldLink RX11 49 "LeftArguments" "room" "LLeftArguments$Room;") (List.mem_cons_of_mem _ (List.mem_append_left _ (List.mem_append_left _ (List.mem_append_left _ (List.mem_append_left _ (List.mem_of_getElem? (i := 0) rfl))))))) (fun _ h9 => h9) rfl dX11_move_1 ?_
  refine lv_iload_n hx hb dX11_move_4 rfl (lv_at hl 1 rfl) ?_
  have hPc := hP.sub (ws' := (wd_ec98a0b6 h3 h4 r11 v6 v7 h4 g1 f8)) [3, 4] rfl
  have hDc := hD.sub (ws' := (wd_ec98a0b6 h3 h4 r11 v6 v7 h4 g1 f8)) [3, 4] (by decide) rfl
  have hKc := hK.sub (tys' := [(g1, .int)]) [1] rfl
  have hFc := va_free (wc := (wd_ec98a0b6 h3 h4 r11 v6 v7 h4 g1 f8)) hD hS hA [3, 4] rfl
  refine va_calli (va_runV (As := [.int v13]) (rest := []) ⟨hx, hb, hml, hown, hts⟩ (k_X7_has l dC dI h3 h4 r11 v6 v7 g1 f8 v13  H.size) (cwV 1 hts g_X11_move_0 rfl rfl rfl (by decide +kernel) ⟨Nat.le_of_ble_eq_true rfl, Nat.le_of_ble_eq_true rfl⟩) (pv_PV7 hPc hKc hDc (q0 := 0) rfl) rfl rfl hl.1 rfl (lv_room (Nat.le_of_ble_eq_true rfl)) dX11_move_5 ⟨Nat.le_of_ble_eq_true rfl, Nat.le_of_ble_eq_true rfl⟩) hS (fun q _ h => hFc q h) hFc (fun ra1 u t H1 locs ht hvm hwra1 hB hz1 hk1 hS => ?_)
  obtain ⟨hP1, hK1, hD1⟩ := hB
  rw [ht] at hP1
  obtain ⟨hP2, hD2⟩ := va_join (wr := (wd_269e0239 h0 r0 r1 r2 r3 h1 h3 r4 h5 r5 r6 r7 r8 r9 h7 v0 v1 w2 h1 h2 r10 v3 v4 h2 g0 f5 h5 h6 v9 v10 h6 g2 f11 h7 g3 f12)) (w1 := (wd_ec98a0b6 h3 h4 r11 v6 v7 h4 g1 f8)) hP hD [3, 4] [0, 1, 2, 5, 6, 7] rfl rfl (by decide) (by decide) hk1 hFc hP1 hD1
  clear hP hD hPc hDc hKc hFc hP1 hK1 hD1 hk1 hz1
  generalize H1 = H at hP2 hS ⊢
  have hP := hP2.sub (ws' := (wd_f86bdc86 h0 r0 r1 r2 r3 h1 h3 r4 h5 r5 r6 r7 r8 r9 h7 v0 v1 w2 h1 h2 r10 v3 v4 h2 g0 f5 h3 h4 r11 v6 v7 h4 g1 f8 h5 h6 v9 v10 h6 g2 f11 h7 g3 f12)) [0, 1, 2, 6, 7, 3, 4, 5] rfl
  have hD := hD2.sub (ws' := (wd_f86bdc86 h0 r0 r1 r2 r3 h1 h3 r4 h5 r5 r6 r7 r8 r9 h7 v0 v1 w2 h1 h2 r10 v3 v4 h2 g0 f5 h3 h4 r11 v6 v7 h4 g1 f8 h5 h6 v9 v10 h6 g2 f11 h7 g3 f12)) [0, 1, 2, 6, 7, 3, 4, 5] (by decide) rfl
  clear hP2 hD2
  obtain ⟨wa_ra1, wb_ra1⟩ := hwra1
  have wa_ra1 : 0 ≤ ra1.toInt := wa_ra1
  have wb_ra1 : ra1.toInt ≤ 1 := wb_ra1
  refine lv_if_ne (tgt := 17) hx hb dX11_move_8 (by decide) (fun c2 => ?_) (fun c2 => ?_)
  · skip
    have fc2 : ¬ (ra1.toInt = 0) := fun h9 => c2 (Int32.toInt_inj.mp h9)
    refine lv_iload_n hx hb dX11_move_17 rfl (lv_at hl 2 rfl) ?_
    refine lv_bipush (v := 9) hx hb dX11_move_18 (by decide) ?_
    refine lv_icmp_eq (tgt := 40) hx hb dX11_move_20 (by decide) (fun c3 => ?_) (fun c3 => ?_)
    · skip
      have fc3 : v14.toInt = 9 := congrArg Int32.toInt c3
      refine lv_aload_n hx hb dX11_move_40 rfl (lv_at hl 0 rfl) ?_
      refine va_get (D := (dC, dI)) (ci := 11) (v := .ref h3) (C := RX11) (T := TX11) (N := 17) hx hb hts (fun _ h => List.mem_cons_of_mem _ (List.mem_append_left _ (List.mem_append_left _ (List.mem_append_left _ (List.mem_append_right _ h))))) hown hK hP 0 rfl rfl 5 (by decide) (hts (.fieldLink RX11 49 "LeftArguments" "room" "LLeftArguments$Room;") (List.mem_cons_of_mem _ (List.mem_append_left _ (List.mem_append_left _ (List.mem_append_left _ (List.mem_append_left _ (List.mem_of_getElem? (i := 0) rfl))))))) (fun _ h9 => h9) rfl dX11_move_41 ?_
      refine lv_iload_n hx hb dX11_move_44 rfl (lv_at hl 1 rfl) ?_
      refine lv_iconst (v := 3) hx hb dX11_move_45 (by decide) ?_
      have hPc := hP.sub (ws' := (wd_ec98a0b6 h3 h4 r11 v6 v7 h4 g1 f8)) [3, 4] rfl
      have hDc := hD.sub (ws' := (wd_ec98a0b6 h3 h4 r11 v6 v7 h4 g1 f8)) [3, 4] (by decide) rfl
      have hKc := hK.sub (tys' := [(g1, .int)]) [1] rfl
      have hFc := va_free (wc := (wd_ec98a0b6 h3 h4 r11 v6 v7 h4 g1 f8)) hD hS hA [3, 4] rfl
      refine va_calli (va_runV (As := [.int v13, .int 3]) (rest := []) ⟨hx, hb, hml, hown, hts⟩ (k_X7_of l dC dI h3 h4 r11 v6 v7 g1 f8 v13 3  H.size) (cwV 2 hts g_X11_move_1 rfl rfl rfl (by decide +kernel) ⟨Nat.le_of_ble_eq_true rfl, Nat.le_of_ble_eq_true rfl⟩) (pv_PV7 hPc hKc hDc (q0 := 0) rfl) rfl rfl hl.1 rfl (lv_room (Nat.le_of_ble_eq_true rfl)) dX11_move_46 ⟨Nat.le_of_ble_eq_true rfl, Nat.le_of_ble_eq_true rfl⟩) hS (fun q _ h => hFc q h) hFc (fun ra4 u t H1 locs ht hvm hwra4 hB hz1 hk1 hS => ?_)
      obtain ⟨hP1, hK1, hD1⟩ := hB
      rw [ht] at hP1
      obtain ⟨hP2, hD2⟩ := va_join (wr := (wd_269e0239 h0 r0 r1 r2 r3 h1 h3 r4 h5 r5 r6 r7 r8 r9 h7 v0 v1 w2 h1 h2 r10 v3 v4 h2 g0 f5 h5 h6 v9 v10 h6 g2 f11 h7 g3 f12)) (w1 := (wd_ec98a0b6 h3 h4 r11 v6 v7 h4 g1 f8)) hP hD [3, 4] [0, 1, 2, 5, 6, 7] rfl rfl (by decide) (by decide) hk1 hFc hP1 hD1
      clear hP hD hPc hDc hKc hFc hP1 hK1 hD1 hk1 hz1
      generalize H1 = H at hP2 hS ⊢
      have hP := hP2.sub (ws' := (wd_f86bdc86 h0 r0 r1 r2 r3 h1 h3 r4 h5 r5 r6 r7 r8 r9 h7 v0 v1 w2 h1 h2 r10 v3 v4 h2 g0 f5 h3 h4 r11 v6 v7 h4 g1 f8 h5 h6 v9 v10 h6 g2 f11 h7 g3 f12)) [0, 1, 2, 6, 7, 3, 4, 5] rfl
      have hD := hD2.sub (ws' := (wd_f86bdc86 h0 r0 r1 r2 r3 h1 h3 r4 h5 r5 r6 r7 r8 r9 h7 v0 v1 w2 h1 h2 r10 v3 v4 h2 g0 f5 h3 h4 r11 v6 v7 h4 g1 f8 h5 h6 v9 v10 h6 g2 f11 h7 g3 f12)) [0, 1, 2, 6, 7, 3, 4, 5] (by decide) rfl
      clear hP2 hD2
      refine lv_istore_n (lv' := [(3, .int ra4), (0, .ref h0), (1, .int v13), (2, .int v14)]) hx hb dX11_move_49 rfl hl (by decide) rfl (fun ls hl => ?_)
      refine lv_iload_n hx hb dX11_move_50 rfl (lv_at hl 0 rfl) ?_
      refine lv_iload_n hx hb dX11_move_51 rfl (lv_at hl 3 rfl) ?_
      refine lv_icmp_ne (tgt := 61) hx hb dX11_move_52 (by decide) (fun c5 => ?_) (fun c5 => ?_)
      · skip
        have fc5 : ¬ (ra4.toInt = v14.toInt) := fun h9 => c5 (Int32.toInt_inj.mp h9)
        have r1c5 := Int32.toInt_lt ra4
        have r2c5 := Int32.toInt_lt v14
        have r3c5 := Int32.le_toInt ra4
        have r4c5 := Int32.le_toInt v14
        refine lv_iload_n hx hb dX11_move_61 rfl (lv_at hl 3 rfl) ?_
        refine lv_bipush (v := 9) hx hb dX11_move_62 (by decide) ?_
        refine lv_icmp_ne (tgt := 71) hx hb dX11_move_64 (by decide) (fun c6 => by exfalso; have fc6 : ¬ (v14.toInt = 9) := fun h9 => c6 (Int32.toInt_inj.mp h9); omega) (fun _ => ?_)
        refine lv_iconst (v := 1) hx hb dX11_move_67 (by decide) ?_
        refine lv_goto (tgt := 72) hx hb dX11_move_68 (by decide) ?_
        refine lv_istore (lv' := [(4, .int 1), (3, .int ra4), (0, .ref h0), (1, .int v13), (2, .int v14)]) hx hb dX11_move_72 hl (by decide) rfl (fun ls hl => ?_)
        refine lv_iload hx hb dX11_move_74 (lv_at hl 0 rfl) ?_
        refine lv_if_ne (tgt := 120) hx hb dX11_move_76 (by decide) (fun _ => ?_) (fun c => absurd c (by decide))
        refine lv_aload_n hx hb dX11_move_120 rfl (lv_at hl 2 rfl) ?_
        refine va_get (D := (dC, dI)) (ci := 11) (v := .ref h5) (C := RX11) (T := TX11) (N := 17) hx hb hts (fun _ h => List.mem_cons_of_mem _ (List.mem_append_left _ (List.mem_append_left _ (List.mem_append_left _ (List.mem_append_right _ h))))) hown hK hP 0 rfl rfl 7 (by decide) (hts (.fieldLink RX11 63 "LeftArguments" "acts" "LLeftArguments$Acts;") (List.mem_cons_of_mem _ (List.mem_append_left _ (List.mem_append_left _ (List.mem_append_left _ (List.mem_append_left _ (List.mem_of_getElem? (i := 11) rfl))))))) (fun _ h9 => h9) rfl dX11_move_121 ?_
        refine lv_aload_n hx hb dX11_move_124 rfl (lv_at hl 2 rfl) ?_
        refine va_get (D := (dC, dI)) (ci := 11) (v := .ref h3) (C := RX11) (T := TX11) (N := 17) hx hb hts (fun _ h => List.mem_cons_of_mem _ (List.mem_append_left _ (List.mem_append_left _ (List.mem_append_left _ (List.mem_append_right _ h))))) hown hK hP 0 rfl rfl 5 (by decide) (hts (.fieldLink RX11 49 "LeftArguments" "room" "LLeftArguments$Room;") (List.mem_cons_of_mem _ (List.mem_append_left _ (List.mem_append_left _ (List.mem_append_left _ (List.mem_append_left _ (List.mem_of_getElem? (i := 0) rfl))))))) (fun _ h9 => h9) rfl dX11_move_125 ?_
        have hPc := hP.sub (ws' := (wd_98775811 h5 h6 v9 v10 h3 h4 r11 v6 v7 h4 g1 f8 h6 g2 f11)) [5, 3, 4, 6] rfl
        have hDc := hD.sub (ws' := (wd_98775811 h5 h6 v9 v10 h3 h4 r11 v6 v7 h4 g1 f8 h6 g2 f11)) [5, 3, 4, 6] (by decide) rfl
        have hKc := hK.sub (tys' := [(g1, .int), (g2, .int)]) [1, 2] rfl
        have hFc := va_free (wc := (wd_98775811 h5 h6 v9 v10 h3 h4 r11 v6 v7 h4 g1 f8 h6 g2 f11)) hD hS hA [5, 3, 4, 6] rfl
        refine va_callv (va_runV (As := [.ref h3]) (rest := []) ⟨hx, hb, hml, hown, hts⟩ (k_X0_keep l dC dI h5 h3 h4 h6 v9 v10 r11 v6 v7 g1 f8 g2 f11 ⟨i_v9a, i_v9b⟩ ⟨i_v10a, i_v10b⟩ H.size) (cwV 1 hts g_X11_move_2 rfl rfl rfl (by decide +kernel) ⟨Nat.le_of_ble_eq_true rfl, Nat.le_of_ble_eq_true rfl⟩) (pv_PV0 hPc hKc hDc (q0 := 0) rfl) rfl rfl hl.1 rfl (lv_room (Nat.le_of_ble_eq_true rfl)) dX11_move_128 ⟨Nat.le_of_ble_eq_true rfl, Nat.le_of_ble_eq_true rfl⟩) hS (fun q _ h => hFc q h) hFc (fun u t H1 locs ht hvm hwra7 hB hz1 hk1 hS => ?_)
        obtain ⟨x8, x9, fn10, oa_x8, ob_x8, oa_x9, ob_x9, hP1, hK1, hD1⟩ := hB
        rw [ht] at hP1
        obtain ⟨hP2, hD2⟩ := va_join (wr := (wd_f9ff5482 h0 r0 r1 r2 r3 h1 h3 r4 h5 r5 r6 r7 r8 r9 h7 v0 v1 w2 h1 h2 r10 v3 v4 h2 g0 f5 h7 g3 f12)) (w1 := (wd_98775811 h5 h6 x8 x9 h3 h4 r11 v6 v7 h4 g1 f8 h6 g2 fn10)) hP hD [5, 3, 4, 6] [0, 1, 2, 7] rfl rfl (by decide) (by decide) hk1 hFc hP1 hD1
        clear hP hD hPc hDc hKc hFc hP1 hK1 hD1 hk1 hz1
        generalize H1 = H at hP2 hS ⊢
        have hP := hP2.sub (ws' := (wd_f86bdc86 h0 r0 r1 r2 r3 h1 h3 r4 h5 r5 r6 r7 r8 r9 h7 v0 v1 w2 h1 h2 r10 v3 v4 h2 g0 f5 h3 h4 r11 v6 v7 h4 g1 f8 h5 h6 x8 x9 h6 g2 fn10 h7 g3 f12)) [0, 1, 2, 5, 6, 4, 7, 3] rfl
        have hD := hD2.sub (ws' := (wd_f86bdc86 h0 r0 r1 r2 r3 h1 h3 r4 h5 r5 r6 r7 r8 r9 h7 v0 v1 w2 h1 h2 r10 v3 v4 h2 g0 f5 h3 h4 r11 v6 v7 h4 g1 f8 h5 h6 x8 x9 h6 g2 fn10 h7 g3 f12)) [0, 1, 2, 5, 6, 4, 7, 3] (by decide) rfl
        clear hP2 hD2
        refine lv_aload_n hx hb dX11_move_131 rfl (lv_at hl 2 rfl) ?_
        refine va_get (D := (dC, dI)) (ci := 11) (v := .ref h3) (C := RX11) (T := TX11) (N := 17) hx hb hts (fun _ h => List.mem_cons_of_mem _ (List.mem_append_left _ (List.mem_append_left _ (List.mem_append_left _ (List.mem_append_right _ h))))) hown hK hP 0 rfl rfl 5 (by decide) (hts (.fieldLink RX11 49 "LeftArguments" "room" "LLeftArguments$Room;") (List.mem_cons_of_mem _ (List.mem_append_left _ (List.mem_append_left _ (List.mem_append_left _ (List.mem_append_left _ (List.mem_of_getElem? (i := 0) rfl))))))) (fun _ h9 => h9) rfl dX11_move_132 ?_
        refine lv_iload_n hx hb dX11_move_135 rfl (lv_at hl 3 rfl) ?_
        refine lv_iconst (v := 3) hx hb dX11_move_136 (by decide) ?_
        refine lv_iload_n hx hb dX11_move_137 rfl (lv_at hl 4 rfl) ?_
        have hPc := hP.sub (ws' := (wd_ec98a0b6 h3 h4 r11 v6 v7 h4 g1 f8)) [3, 4] rfl
        have hDc := hD.sub (ws' := (wd_ec98a0b6 h3 h4 r11 v6 v7 h4 g1 f8)) [3, 4] (by decide) rfl
        have hKc := hK.sub (tys' := [(g1, .int)]) [1] rfl
        have hFc := va_free (wc := (wd_ec98a0b6 h3 h4 r11 v6 v7 h4 g1 f8)) hD hS hA [3, 4] rfl
        refine va_callv (va_runV (As := [.int v13, .int 3, .int v14]) (rest := []) ⟨hx, hb, hml, hown, hts⟩ (k_X7_set l dC dI h3 h4 r11 v6 v7 g1 f8 v13 3 v14  H.size) (cwV 3 hts g_X11_move_3 rfl rfl rfl (by decide +kernel) ⟨Nat.le_of_ble_eq_true rfl, Nat.le_of_ble_eq_true rfl⟩) (pv_PV7 hPc hKc hDc (q0 := 0) rfl) rfl rfl hl.1 rfl (lv_room (Nat.le_of_ble_eq_true rfl)) dX11_move_138 ⟨Nat.le_of_ble_eq_true rfl, Nat.le_of_ble_eq_true rfl⟩) hS (fun q _ h => hFc q h) hFc (fun u t H1 locs ht hvm hwra11 hB hz1 hk1 hS => ?_)
        obtain ⟨fn12, hP1, hK1, hD1⟩ := hB
        rw [ht] at hP1
        obtain ⟨hP2, hD2⟩ := va_join (wr := (wd_269e0239 h0 r0 r1 r2 r3 h1 h3 r4 h5 r5 r6 r7 r8 r9 h7 v0 v1 w2 h1 h2 r10 v3 v4 h2 g0 f5 h5 h6 x8 x9 h6 g2 fn10 h7 g3 f12)) (w1 := (wd_ec98a0b6 h3 h4 r11 v6 v7 h4 g1 fn12)) hP hD [3, 4] [0, 1, 2, 5, 6, 7] rfl rfl (by decide) (by decide) hk1 hFc hP1 hD1
        clear hP hD hPc hDc hKc hFc hP1 hK1 hD1 hk1 hz1
        generalize H1 = H at hP2 hS ⊢
        have hP := hP2.sub (ws' := (wd_f86bdc86 h0 r0 r1 r2 r3 h1 h3 r4 h5 r5 r6 r7 r8 r9 h7 v0 v1 w2 h1 h2 r10 v3 v4 h2 g0 f5 h3 h4 r11 v6 v7 h4 g1 fn12 h5 h6 x8 x9 h6 g2 fn10 h7 g3 f12)) [0, 1, 2, 6, 7, 3, 4, 5] rfl
        have hD := hD2.sub (ws' := (wd_f86bdc86 h0 r0 r1 r2 r3 h1 h3 r4 h5 r5 r6 r7 r8 r9 h7 v0 v1 w2 h1 h2 r10 v3 v4 h2 g0 f5 h3 h4 r11 v6 v7 h4 g1 fn12 h5 h6 x8 x9 h6 g2 fn10 h7 g3 f12)) [0, 1, 2, 6, 7, 3, 4, 5] (by decide) rfl
        clear hP2 hD2
        refine lv_iload hx hb dX11_move_141 (lv_at hl 0 rfl) ?_
        refine lv_if_ne (tgt := 154) hx hb dX11_move_143 (by decide) (fun _ => ?_) (fun c => absurd c (by decide))
        refine lv_iload_n hx hb dX11_move_154 rfl (lv_at hl 1 rfl) ?_
        subst hQ
        have hP9 := hP.sub (ws' := (wd_f86bdc86 h0 r0 r1 r2 r3 h1 h3 r4 h5 r5 r6 r7 r8 r9 h7 v0 v1 w2 h1 h2 r10 v3 v4 h2 g0 f5 h3 h4 r11 v6 v7 h4 g1 fn12 h5 h6 x8 x9 h6 g2 fn10 h7 g3 f12)) [0, 1, 2, 3, 4, 5, 6, 7] rfl
        have hD9 := hD.sub (ws' := (wd_f86bdc86 h0 r0 r1 r2 r3 h1 h3 r4 h5 r5 r6 r7 r8 r9 h7 v0 v1 w2 h1 h2 r10 v3 v4 h2 g0 f5 h3 h4 r11 v6 v7 h4 g1 fn12 h5 h6 x8 x9 h6 g2 fn10 h7 g3 f12)) [0, 1, 2, 3, 4, 5, 6, 7] (by decide) rfl
        have hK9 := hK.sub (tys' := []) [] rfl
        exact W.iret (v := ra4) hx hb hr (fun t ht hW => ⟨⟨ra4, (), rfl, trivial, fn12, x8, x9, fn10, f12, oa_x8, ob_x8, oa_x9, ob_x9, by rw [ht]; exact hP9, va_K.moved hW.alike hK9, hD9⟩, hS.F ht⟩) hS.2.2 dX11_move_155
      · skip
        have fc5 : ra4.toInt = v14.toInt := congrArg Int32.toInt c5
        have r1c5 := Int32.toInt_lt ra4
        have r2c5 := Int32.toInt_lt v14
        have r3c5 := Int32.le_toInt ra4
        have r4c5 := Int32.le_toInt v14
        refine lv_aload_n hx hb dX11_move_55 rfl (lv_at hl 1 rfl) ?_
        refine lv_iconst (v := 2) hx hb dX11_move_56 (by decide) ?_
        have hPc := hP.sub (ws' := (wd_ded466ce h0 r0 r1 r2 r3 h1 h3 r4 h5 r5 r6 r7 r8 r9 h7 v0 v1 w2 h7 g3 f12)) [0, 7] rfl
        have hDc := hD.sub (ws' := (wd_ded466ce h0 r0 r1 r2 r3 h1 h3 r4 h5 r5 r6 r7 r8 r9 h7 v0 v1 w2 h7 g3 f12)) [0, 7] (by decide) rfl
        have hKc := hK.sub (tys' := [(g3, .int)]) [3] rfl
        have hFc := va_free (wc := (wd_ded466ce h0 r0 r1 r2 r3 h1 h3 r4 h5 r5 r6 r7 r8 r9 h7 v0 v1 w2 h7 g3 f12)) hD hS hA [0, 7] rfl
        refine va_calli (va_runV (As := [.int 2]) (rest := []) ⟨hx, hb, hml, hown, hts⟩ (k_X11_refuse l dC dI h0 h7 r0 r1 r2 r3 h1 h3 r4 h5 r5 r6 r7 r8 r9 v0 v1 w2 g3 f12 2 ⟨i_v0a, i_v0b⟩ H.size) (cwV 1 hts g_X11_move_4 rfl rfl rfl (by decide +kernel) ⟨Nat.le_of_ble_eq_true rfl, Nat.le_of_ble_eq_true rfl⟩) (pv_PV11 hPc hKc hDc (q0 := 0) rfl) rfl rfl hl.1 rfl (lv_room (Nat.le_of_ble_eq_true rfl)) dX11_move_57 ⟨Nat.le_of_ble_eq_true rfl, Nat.le_of_ble_eq_true rfl⟩) hS (fun q _ h => hFc q h) hFc (fun ra13 u t H1 locs ht hvm hwra13 hB hz1 hk1 hS => ?_)
        obtain ⟨fn14, hP1, hK1, hD1⟩ := hB
        rw [ht] at hP1
        obtain ⟨hP2, hD2⟩ := va_join (wr := (wd_75a36671 h1 h2 r10 v3 v4 h2 g0 f5 h3 h4 r11 v6 v7 h4 g1 f8 h5 h6 v9 v10 h6 g2 f11)) (w1 := (wd_ded466ce h0 r0 r1 r2 r3 h1 h3 r4 h5 r5 r6 r7 r8 r9 h7 v0 v1 w2 h7 g3 fn14)) hP hD [0, 7] [1, 2, 3, 4, 5, 6] rfl rfl (by decide) (by decide) hk1 hFc hP1 hD1
        clear hP hD hPc hDc hKc hFc hP1 hK1 hD1 hk1 hz1
        generalize H1 = H at hP2 hS ⊢
        have hP := hP2.sub (ws' := (wd_f86bdc86 h0 r0 r1 r2 r3 h1 h3 r4 h5 r5 r6 r7 r8 r9 h7 v0 v1 w2 h1 h2 r10 v3 v4 h2 g0 f5 h3 h4 r11 v6 v7 h4 g1 f8 h5 h6 v9 v10 h6 g2 f11 h7 g3 fn14)) [6, 0, 1, 2, 3, 4, 5, 7] rfl
        have hD := hD2.sub (ws' := (wd_f86bdc86 h0 r0 r1 r2 r3 h1 h3 r4 h5 r5 r6 r7 r8 r9 h7 v0 v1 w2 h1 h2 r10 v3 v4 h2 g0 f5 h3 h4 r11 v6 v7 h4 g1 f8 h5 h6 v9 v10 h6 g2 f11 h7 g3 fn14)) [6, 0, 1, 2, 3, 4, 5, 7] (by decide) rfl
        clear hP2 hD2
        obtain ⟨wa_ra13, wb_ra13⟩ := hwra13
        have wa_ra13 : -1 ≤ ra13.toInt := wa_ra13
        have wb_ra13 : ra13.toInt ≤ -1 := wb_ra13
        subst hQ
        have hP9 := hP.sub (ws' := (wd_f86bdc86 h0 r0 r1 r2 r3 h1 h3 r4 h5 r5 r6 r7 r8 r9 h7 v0 v1 w2 h1 h2 r10 v3 v4 h2 g0 f5 h3 h4 r11 v6 v7 h4 g1 f8 h5 h6 v9 v10 h6 g2 f11 h7 g3 fn14)) [0, 1, 2, 3, 4, 5, 6, 7] rfl
        have hD9 := hD.sub (ws' := (wd_f86bdc86 h0 r0 r1 r2 r3 h1 h3 r4 h5 r5 r6 r7 r8 r9 h7 v0 v1 w2 h1 h2 r10 v3 v4 h2 g0 f5 h3 h4 r11 v6 v7 h4 g1 f8 h5 h6 v9 v10 h6 g2 f11 h7 g3 fn14)) [0, 1, 2, 3, 4, 5, 6, 7] (by decide) rfl
        have hK9 := hK.sub (tys' := []) [] rfl
        exact W.iret (v := ra13) hx hb hr (fun t ht hW => ⟨⟨ra13, (), rfl, trivial, f8, v9, v10, f11, fn14, i_v9a, i_v9b, i_v10a, i_v10b, by rw [ht]; exact hP9, va_K.moved hW.alike hK9, hD9⟩, hS.F ht⟩) hS.2.2 dX11_move_60
    · skip
      have fc3 : ¬ (v14.toInt = 9) := fun h9 => c3 (Int32.toInt_inj.mp h9)
      refine lv_aload_n hx hb dX11_move_23 rfl (lv_at hl 0 rfl) ?_
      refine va_get (D := (dC, dI)) (ci := 11) (v := .ref h1) (C := RX11) (T := TX11) (N := 17) hx hb hts (fun _ h => List.mem_cons_of_mem _ (List.mem_append_left _ (List.mem_append_left _ (List.mem_append_left _ (List.mem_append_right _ h))))) hown hK hP 0 rfl rfl 4 (by decide) (hts (.fieldLink RX11 42 "LeftArguments" "office" "LLeftArguments$Office;") (List.mem_cons_of_mem _ (List.mem_append_left _ (List.mem_append_left _ (List.mem_append_left _ (List.mem_append_left _ (List.mem_of_getElem? (i := 42) rfl))))))) (fun _ h9 => h9) rfl dX11_move_24 ?_
      refine lv_iload_n hx hb dX11_move_27 rfl (lv_at hl 2 rfl) ?_
      have hPc := hP.sub (ws' := (wd_05d455dc h1 h2 r10 v3 v4 h2 g0 f5)) [1, 2] rfl
      have hDc := hD.sub (ws' := (wd_05d455dc h1 h2 r10 v3 v4 h2 g0 f5)) [1, 2] (by decide) rfl
      have hKc := hK.sub (tys' := [(g0, .int)]) [0] rfl
      have hFc := va_free (wc := (wd_05d455dc h1 h2 r10 v3 v4 h2 g0 f5)) hD hS hA [1, 2] rfl
      refine va_calli (va_runV (As := [.int v14]) (rest := []) ⟨hx, hb, hml, hown, hts⟩ (k_X5_hasShelf l dC dI h1 h2 r10 v3 v4 g0 f5 v14 ⟨i_v4a, i_v4b⟩ H.size) (cwV 1 hts g_X11_move_5 rfl rfl rfl (by decide +kernel) ⟨Nat.le_of_ble_eq_true rfl, Nat.le_of_ble_eq_true rfl⟩) (pv_PV5 hPc hKc hDc (q0 := 0) rfl) rfl rfl hl.1 rfl (lv_room (Nat.le_of_ble_eq_true rfl)) dX11_move_28 ⟨Nat.le_of_ble_eq_true rfl, Nat.le_of_ble_eq_true rfl⟩) hS (fun q _ h => hFc q h) hFc (fun ra15 u t H1 locs ht hvm hwra15 hB hz1 hk1 hS => ?_)
      obtain ⟨hP1, hK1, hD1⟩ := hB
      rw [ht] at hP1
      obtain ⟨hP2, hD2⟩ := va_join (wr := (wd_9de86372 h0 r0 r1 r2 r3 h1 h3 r4 h5 r5 r6 r7 r8 r9 h7 v0 v1 w2 h3 h4 r11 v6 v7 h4 g1 f8 h5 h6 v9 v10 h6 g2 f11 h7 g3 f12)) (w1 := (wd_05d455dc h1 h2 r10 v3 v4 h2 g0 f5)) hP hD [1, 2] [0, 3, 4, 5, 6, 7] rfl rfl (by decide) (by decide) hk1 hFc hP1 hD1
      clear hP hD hPc hDc hKc hFc hP1 hK1 hD1 hk1 hz1
      generalize H1 = H at hP2 hS ⊢
      have hP := hP2.sub (ws' := (wd_f86bdc86 h0 r0 r1 r2 r3 h1 h3 r4 h5 r5 r6 r7 r8 r9 h7 v0 v1 w2 h1 h2 r10 v3 v4 h2 g0 f5 h3 h4 r11 v6 v7 h4 g1 f8 h5 h6 v9 v10 h6 g2 f11 h7 g3 f12)) [0, 6, 7, 1, 2, 3, 4, 5] rfl
      have hD := hD2.sub (ws' := (wd_f86bdc86 h0 r0 r1 r2 r3 h1 h3 r4 h5 r5 r6 r7 r8 r9 h7 v0 v1 w2 h1 h2 r10 v3 v4 h2 g0 f5 h3 h4 r11 v6 v7 h4 g1 f8 h5 h6 v9 v10 h6 g2 f11 h7 g3 f12)) [0, 6, 7, 1, 2, 3, 4, 5] (by decide) rfl
      clear hP2 hD2
      obtain ⟨wa_ra15, wb_ra15⟩ := hwra15
      have wa_ra15 : 0 ≤ ra15.toInt := wa_ra15
      have wb_ra15 : ra15.toInt ≤ 1 := wb_ra15
      refine lv_if_ne (tgt := 40) hx hb dX11_move_31 (by decide) (fun c16 => ?_) (fun c16 => ?_)
      · skip
        have fc16 : ¬ (ra15.toInt = 0) := fun h9 => c16 (Int32.toInt_inj.mp h9)
        refine lv_aload_n hx hb dX11_move_40 rfl (lv_at hl 0 rfl) ?_
        refine va_get (D := (dC, dI)) (ci := 11) (v := .ref h3) (C := RX11) (T := TX11) (N := 17) hx hb hts (fun _ h => List.mem_cons_of_mem _ (List.mem_append_left _ (List.mem_append_left _ (List.mem_append_left _ (List.mem_append_right _ h))))) hown hK hP 0 rfl rfl 5 (by decide) (hts (.fieldLink RX11 49 "LeftArguments" "room" "LLeftArguments$Room;") (List.mem_cons_of_mem _ (List.mem_append_left _ (List.mem_append_left _ (List.mem_append_left _ (List.mem_append_left _ (List.mem_of_getElem? (i := 0) rfl))))))) (fun _ h9 => h9) rfl dX11_move_41 ?_
        refine lv_iload_n hx hb dX11_move_44 rfl (lv_at hl 1 rfl) ?_
        refine lv_iconst (v := 3) hx hb dX11_move_45 (by decide) ?_
        have hPc := hP.sub (ws' := (wd_ec98a0b6 h3 h4 r11 v6 v7 h4 g1 f8)) [3, 4] rfl
        have hDc := hD.sub (ws' := (wd_ec98a0b6 h3 h4 r11 v6 v7 h4 g1 f8)) [3, 4] (by decide) rfl
        have hKc := hK.sub (tys' := [(g1, .int)]) [1] rfl
        have hFc := va_free (wc := (wd_ec98a0b6 h3 h4 r11 v6 v7 h4 g1 f8)) hD hS hA [3, 4] rfl
        refine va_calli (va_runV (As := [.int v13, .int 3]) (rest := []) ⟨hx, hb, hml, hown, hts⟩ (k_X7_of l dC dI h3 h4 r11 v6 v7 g1 f8 v13 3  H.size) (cwV 2 hts g_X11_move_1 rfl rfl rfl (by decide +kernel) ⟨Nat.le_of_ble_eq_true rfl, Nat.le_of_ble_eq_true rfl⟩) (pv_PV7 hPc hKc hDc (q0 := 0) rfl) rfl rfl hl.1 rfl (lv_room (Nat.le_of_ble_eq_true rfl)) dX11_move_46 ⟨Nat.le_of_ble_eq_true rfl, Nat.le_of_ble_eq_true rfl⟩) hS (fun q _ h => hFc q h) hFc (fun ra17 u t H1 locs ht hvm hwra17 hB hz1 hk1 hS => ?_)
        obtain ⟨hP1, hK1, hD1⟩ := hB
        rw [ht] at hP1
        obtain ⟨hP2, hD2⟩ := va_join (wr := (wd_269e0239 h0 r0 r1 r2 r3 h1 h3 r4 h5 r5 r6 r7 r8 r9 h7 v0 v1 w2 h1 h2 r10 v3 v4 h2 g0 f5 h5 h6 v9 v10 h6 g2 f11 h7 g3 f12)) (w1 := (wd_ec98a0b6 h3 h4 r11 v6 v7 h4 g1 f8)) hP hD [3, 4] [0, 1, 2, 5, 6, 7] rfl rfl (by decide) (by decide) hk1 hFc hP1 hD1
        clear hP hD hPc hDc hKc hFc hP1 hK1 hD1 hk1 hz1
        generalize H1 = H at hP2 hS ⊢
        have hP := hP2.sub (ws' := (wd_f86bdc86 h0 r0 r1 r2 r3 h1 h3 r4 h5 r5 r6 r7 r8 r9 h7 v0 v1 w2 h1 h2 r10 v3 v4 h2 g0 f5 h3 h4 r11 v6 v7 h4 g1 f8 h5 h6 v9 v10 h6 g2 f11 h7 g3 f12)) [0, 1, 2, 6, 7, 3, 4, 5] rfl
        have hD := hD2.sub (ws' := (wd_f86bdc86 h0 r0 r1 r2 r3 h1 h3 r4 h5 r5 r6 r7 r8 r9 h7 v0 v1 w2 h1 h2 r10 v3 v4 h2 g0 f5 h3 h4 r11 v6 v7 h4 g1 f8 h5 h6 v9 v10 h6 g2 f11 h7 g3 f12)) [0, 1, 2, 6, 7, 3, 4, 5] (by decide) rfl
        clear hP2 hD2
        refine lv_istore_n (lv' := [(3, .int ra17), (0, .ref h0), (1, .int v13), (2, .int v14)]) hx hb dX11_move_49 rfl hl (by decide) rfl (fun ls hl => ?_)
        refine lv_iload_n hx hb dX11_move_50 rfl (lv_at hl 0 rfl) ?_
        refine lv_iload_n hx hb dX11_move_51 rfl (lv_at hl 3 rfl) ?_
        refine lv_icmp_ne (tgt := 61) hx hb dX11_move_52 (by decide) (fun c18 => ?_) (fun c18 => ?_)
        · skip
          have fc18 : ¬ (ra17.toInt = v14.toInt) := fun h9 => c18 (Int32.toInt_inj.mp h9)
          have r1c18 := Int32.toInt_lt ra17
          have r2c18 := Int32.toInt_lt v14
          have r3c18 := Int32.le_toInt ra17
          have r4c18 := Int32.le_toInt v14
          refine lv_iload_n hx hb dX11_move_61 rfl (lv_at hl 3 rfl) ?_
          refine lv_bipush (v := 9) hx hb dX11_move_62 (by decide) ?_
          have hJ20 : ∀ (x19 : Int32) (H : Heap) (locs : List Loc) (ls : Array Slot), 0 ≤ x19.toInt → x19.toInt ≤ 1 → va_P (dC, dI) vwCl (wd_f86bdc86 h0 r0 r1 r2 r3 h1 h3 r4 h5 r5 r6 r7 r8 r9 h7 v0 v1 w2 h1 h2 r10 v3 v4 h2 g0 f5 h3 h4 r11 v6 v7 h4 g1 f8 h5 h6 v9 v10 h6 g2 f11 h7 g3 f12) H → va_D A (wd_f86bdc86 h0 r0 r1 r2 r3 h1 h3 r4 h5 r5 r6 r7 r8 r9 h7 v0 v1 w2 h1 h2 r10 v3 v4 h2 g0 f5 h3 h4 r11 v6 v7 h4 g1 f8 h5 h6 v9 v10 h6 g2 f11 h7 g3 f12) → va_S A s.heap H locs → lv_has ls 5 [(3, .int ra17), (0, .ref h0), (1, .int v13), (2, .int v14)] → W p l e ({ frames := 3, cells := 0, slots := 0, locals := 103 }) s m ([.ref h0, .int v13, .int v14] : List Value).toArray below meth c H locs 0 0 Q (F0 m 72 ls [.int x19]) := by
            intro x19 H locs ls qa_x19 qb_x19 hP hD hS hl
            refine lv_istore (lv' := [(4, .int x19), (3, .int ra17), (0, .ref h0), (1, .int v13), (2, .int v14)]) hx hb dX11_move_72 hl (by decide) rfl (fun ls hl => ?_)
            refine lv_iload hx hb dX11_move_74 (lv_at hl 0 rfl) ?_
            refine lv_if_ne (tgt := 120) hx hb dX11_move_76 (by decide) (fun c21 => ?_) (fun c21 => ?_)
            · skip
              have fc21 : ¬ (x19.toInt = 0) := fun h9 => c21 (Int32.toInt_inj.mp h9)
              refine lv_aload_n hx hb dX11_move_120 rfl (lv_at hl 2 rfl) ?_
              refine va_get (D := (dC, dI)) (ci := 11) (v := .ref h5) (C := RX11) (T := TX11) (N := 17) hx hb hts (fun _ h => List.mem_cons_of_mem _ (List.mem_append_left _ (List.mem_append_left _ (List.mem_append_left _ (List.mem_append_right _ h))))) hown hK hP 0 rfl rfl 7 (by decide) (hts (.fieldLink RX11 63 "LeftArguments" "acts" "LLeftArguments$Acts;") (List.mem_cons_of_mem _ (List.mem_append_left _ (List.mem_append_left _ (List.mem_append_left _ (List.mem_append_left _ (List.mem_of_getElem? (i := 11) rfl))))))) (fun _ h9 => h9) rfl dX11_move_121 ?_
              refine lv_aload_n hx hb dX11_move_124 rfl (lv_at hl 2 rfl) ?_
              refine va_get (D := (dC, dI)) (ci := 11) (v := .ref h3) (C := RX11) (T := TX11) (N := 17) hx hb hts (fun _ h => List.mem_cons_of_mem _ (List.mem_append_left _ (List.mem_append_left _ (List.mem_append_left _ (List.mem_append_right _ h))))) hown hK hP 0 rfl rfl 5 (by decide) (hts (.fieldLink RX11 49 "LeftArguments" "room" "LLeftArguments$Room;") (List.mem_cons_of_mem _ (List.mem_append_left _ (List.mem_append_left _ (List.mem_append_left _ (List.mem_append_left _ (List.mem_of_getElem? (i := 0) rfl))))))) (fun _ h9 => h9) rfl dX11_move_125 ?_
              have hPc := hP.sub (ws' := (wd_98775811 h5 h6 v9 v10 h3 h4 r11 v6 v7 h4 g1 f8 h6 g2 f11)) [5, 3, 4, 6] rfl
              have hDc := hD.sub (ws' := (wd_98775811 h5 h6 v9 v10 h3 h4 r11 v6 v7 h4 g1 f8 h6 g2 f11)) [5, 3, 4, 6] (by decide) rfl
              have hKc := hK.sub (tys' := [(g1, .int), (g2, .int)]) [1, 2] rfl
              have hFc := va_free (wc := (wd_98775811 h5 h6 v9 v10 h3 h4 r11 v6 v7 h4 g1 f8 h6 g2 f11)) hD hS hA [5, 3, 4, 6] rfl
              refine va_callv (va_runV (As := [.ref h3]) (rest := []) ⟨hx, hb, hml, hown, hts⟩ (k_X0_keep l dC dI h5 h3 h4 h6 v9 v10 r11 v6 v7 g1 f8 g2 f11 ⟨i_v9a, i_v9b⟩ ⟨i_v10a, i_v10b⟩ H.size) (cwV 1 hts g_X11_move_2 rfl rfl rfl (by decide +kernel) ⟨Nat.le_of_ble_eq_true rfl, Nat.le_of_ble_eq_true rfl⟩) (pv_PV0 hPc hKc hDc (q0 := 0) rfl) rfl rfl hl.1 rfl (lv_room (Nat.le_of_ble_eq_true rfl)) dX11_move_128 ⟨Nat.le_of_ble_eq_true rfl, Nat.le_of_ble_eq_true rfl⟩) hS (fun q _ h => hFc q h) hFc (fun u t H1 locs ht hvm hwra22 hB hz1 hk1 hS => ?_)
              obtain ⟨x23, x24, fn25, oa_x23, ob_x23, oa_x24, ob_x24, hP1, hK1, hD1⟩ := hB
              rw [ht] at hP1
              obtain ⟨hP2, hD2⟩ := va_join (wr := (wd_f9ff5482 h0 r0 r1 r2 r3 h1 h3 r4 h5 r5 r6 r7 r8 r9 h7 v0 v1 w2 h1 h2 r10 v3 v4 h2 g0 f5 h7 g3 f12)) (w1 := (wd_98775811 h5 h6 x23 x24 h3 h4 r11 v6 v7 h4 g1 f8 h6 g2 fn25)) hP hD [5, 3, 4, 6] [0, 1, 2, 7] rfl rfl (by decide) (by decide) hk1 hFc hP1 hD1
              clear hP hD hPc hDc hKc hFc hP1 hK1 hD1 hk1 hz1
              generalize H1 = H at hP2 hS ⊢
              have hP := hP2.sub (ws' := (wd_f86bdc86 h0 r0 r1 r2 r3 h1 h3 r4 h5 r5 r6 r7 r8 r9 h7 v0 v1 w2 h1 h2 r10 v3 v4 h2 g0 f5 h3 h4 r11 v6 v7 h4 g1 f8 h5 h6 x23 x24 h6 g2 fn25 h7 g3 f12)) [0, 1, 2, 5, 6, 4, 7, 3] rfl
              have hD := hD2.sub (ws' := (wd_f86bdc86 h0 r0 r1 r2 r3 h1 h3 r4 h5 r5 r6 r7 r8 r9 h7 v0 v1 w2 h1 h2 r10 v3 v4 h2 g0 f5 h3 h4 r11 v6 v7 h4 g1 f8 h5 h6 x23 x24 h6 g2 fn25 h7 g3 f12)) [0, 1, 2, 5, 6, 4, 7, 3] (by decide) rfl
              clear hP2 hD2
              refine lv_aload_n hx hb dX11_move_131 rfl (lv_at hl 2 rfl) ?_
              refine va_get (D := (dC, dI)) (ci := 11) (v := .ref h3) (C := RX11) (T := TX11) (N := 17) hx hb hts (fun _ h => List.mem_cons_of_mem _ (List.mem_append_left _ (List.mem_append_left _ (List.mem_append_left _ (List.mem_append_right _ h))))) hown hK hP 0 rfl rfl 5 (by decide) (hts (.fieldLink RX11 49 "LeftArguments" "room" "LLeftArguments$Room;") (List.mem_cons_of_mem _ (List.mem_append_left _ (List.mem_append_left _ (List.mem_append_left _ (List.mem_append_left _ (List.mem_of_getElem? (i := 0) rfl))))))) (fun _ h9 => h9) rfl dX11_move_132 ?_
              refine lv_iload_n hx hb dX11_move_135 rfl (lv_at hl 3 rfl) ?_
              refine lv_iconst (v := 3) hx hb dX11_move_136 (by decide) ?_
              refine lv_iload_n hx hb dX11_move_137 rfl (lv_at hl 4 rfl) ?_
              have hPc := hP.sub (ws' := (wd_ec98a0b6 h3 h4 r11 v6 v7 h4 g1 f8)) [3, 4] rfl
              have hDc := hD.sub (ws' := (wd_ec98a0b6 h3 h4 r11 v6 v7 h4 g1 f8)) [3, 4] (by decide) rfl
              have hKc := hK.sub (tys' := [(g1, .int)]) [1] rfl
              have hFc := va_free (wc := (wd_ec98a0b6 h3 h4 r11 v6 v7 h4 g1 f8)) hD hS hA [3, 4] rfl
              refine va_callv (va_runV (As := [.int v13, .int 3, .int v14]) (rest := []) ⟨hx, hb, hml, hown, hts⟩ (k_X7_set l dC dI h3 h4 r11 v6 v7 g1 f8 v13 3 v14  H.size) (cwV 3 hts g_X11_move_3 rfl rfl rfl (by decide +kernel) ⟨Nat.le_of_ble_eq_true rfl, Nat.le_of_ble_eq_true rfl⟩) (pv_PV7 hPc hKc hDc (q0 := 0) rfl) rfl rfl hl.1 rfl (lv_room (Nat.le_of_ble_eq_true rfl)) dX11_move_138 ⟨Nat.le_of_ble_eq_true rfl, Nat.le_of_ble_eq_true rfl⟩) hS (fun q _ h => hFc q h) hFc (fun u t H1 locs ht hvm hwra26 hB hz1 hk1 hS => ?_)
              obtain ⟨fn27, hP1, hK1, hD1⟩ := hB
              rw [ht] at hP1
              obtain ⟨hP2, hD2⟩ := va_join (wr := (wd_269e0239 h0 r0 r1 r2 r3 h1 h3 r4 h5 r5 r6 r7 r8 r9 h7 v0 v1 w2 h1 h2 r10 v3 v4 h2 g0 f5 h5 h6 x23 x24 h6 g2 fn25 h7 g3 f12)) (w1 := (wd_ec98a0b6 h3 h4 r11 v6 v7 h4 g1 fn27)) hP hD [3, 4] [0, 1, 2, 5, 6, 7] rfl rfl (by decide) (by decide) hk1 hFc hP1 hD1
              clear hP hD hPc hDc hKc hFc hP1 hK1 hD1 hk1 hz1
              generalize H1 = H at hP2 hS ⊢
              have hP := hP2.sub (ws' := (wd_f86bdc86 h0 r0 r1 r2 r3 h1 h3 r4 h5 r5 r6 r7 r8 r9 h7 v0 v1 w2 h1 h2 r10 v3 v4 h2 g0 f5 h3 h4 r11 v6 v7 h4 g1 fn27 h5 h6 x23 x24 h6 g2 fn25 h7 g3 f12)) [0, 1, 2, 6, 7, 3, 4, 5] rfl
              have hD := hD2.sub (ws' := (wd_f86bdc86 h0 r0 r1 r2 r3 h1 h3 r4 h5 r5 r6 r7 r8 r9 h7 v0 v1 w2 h1 h2 r10 v3 v4 h2 g0 f5 h3 h4 r11 v6 v7 h4 g1 fn27 h5 h6 x23 x24 h6 g2 fn25 h7 g3 f12)) [0, 1, 2, 6, 7, 3, 4, 5] (by decide) rfl
              clear hP2 hD2
              refine lv_iload hx hb dX11_move_141 (lv_at hl 0 rfl) ?_
              refine lv_if_ne (tgt := 154) hx hb dX11_move_143 (by decide) (fun _ => ?_) (fun c28 => by exfalso; have fc28 : x19.toInt = 0 := congrArg Int32.toInt c28; omega)
              refine lv_iload_n hx hb dX11_move_154 rfl (lv_at hl 1 rfl) ?_
              subst hQ
              have hP9 := hP.sub (ws' := (wd_f86bdc86 h0 r0 r1 r2 r3 h1 h3 r4 h5 r5 r6 r7 r8 r9 h7 v0 v1 w2 h1 h2 r10 v3 v4 h2 g0 f5 h3 h4 r11 v6 v7 h4 g1 fn27 h5 h6 x23 x24 h6 g2 fn25 h7 g3 f12)) [0, 1, 2, 3, 4, 5, 6, 7] rfl
              have hD9 := hD.sub (ws' := (wd_f86bdc86 h0 r0 r1 r2 r3 h1 h3 r4 h5 r5 r6 r7 r8 r9 h7 v0 v1 w2 h1 h2 r10 v3 v4 h2 g0 f5 h3 h4 r11 v6 v7 h4 g1 fn27 h5 h6 x23 x24 h6 g2 fn25 h7 g3 f12)) [0, 1, 2, 3, 4, 5, 6, 7] (by decide) rfl
              have hK9 := hK.sub (tys' := []) [] rfl
              exact W.iret (v := ra17) hx hb hr (fun t ht hW => ⟨⟨ra17, (), rfl, trivial, fn27, x23, x24, fn25, f12, oa_x23, ob_x23, oa_x24, ob_x24, by rw [ht]; exact hP9, va_K.moved hW.alike hK9, hD9⟩, hS.F ht⟩) hS.2.2 dX11_move_155
            · skip
              have fc21 : x19.toInt = 0 := congrArg Int32.toInt c21
              refine lv_aload_n hx hb dX11_move_79 rfl (lv_at hl 2 rfl) ?_
              refine va_get (D := (dC, dI)) (ci := 11) (v := .ref h3) (C := RX11) (T := TX11) (N := 17) hx hb hts (fun _ h => List.mem_cons_of_mem _ (List.mem_append_left _ (List.mem_append_left _ (List.mem_append_left _ (List.mem_append_right _ h))))) hown hK hP 0 rfl rfl 5 (by decide) (hts (.fieldLink RX11 49 "LeftArguments" "room" "LLeftArguments$Room;") (List.mem_cons_of_mem _ (List.mem_append_left _ (List.mem_append_left _ (List.mem_append_left _ (List.mem_append_left _ (List.mem_of_getElem? (i := 0) rfl))))))) (fun _ h9 => h9) rfl dX11_move_80 ?_
              have hPc := hP.sub (ws' := (wd_ec98a0b6 h3 h4 r11 v6 v7 h4 g1 f8)) [3, 4] rfl
              have hDc := hD.sub (ws' := (wd_ec98a0b6 h3 h4 r11 v6 v7 h4 g1 f8)) [3, 4] (by decide) rfl
              have hKc := hK.sub (tys' := [(g1, .int)]) [1] rfl
              have hFc := va_free (wc := (wd_ec98a0b6 h3 h4 r11 v6 v7 h4 g1 f8)) hD hS hA [3, 4] rfl
              refine va_calli (va_runV (As := []) (rest := []) ⟨hx, hb, hml, hown, hts⟩ (k_X7_coins l dC dI h3 h4 r11 v6 v7 g1 f8  H.size) (cwV 0 hts g_X11_move_9 rfl rfl rfl (by decide +kernel) ⟨Nat.le_of_ble_eq_true rfl, Nat.le_of_ble_eq_true rfl⟩) (pv_PV7 hPc hKc hDc (q0 := 0) rfl) rfl rfl hl.1 rfl (lv_room (Nat.le_of_ble_eq_true rfl)) dX11_move_83 ⟨Nat.le_of_ble_eq_true rfl, Nat.le_of_ble_eq_true rfl⟩) hS (fun q _ h => hFc q h) hFc (fun ra29 u t H1 locs ht hvm hwra29 hB hz1 hk1 hS => ?_)
              obtain ⟨hP1, hK1, hD1⟩ := hB
              rw [ht] at hP1
              obtain ⟨hP2, hD2⟩ := va_join (wr := (wd_269e0239 h0 r0 r1 r2 r3 h1 h3 r4 h5 r5 r6 r7 r8 r9 h7 v0 v1 w2 h1 h2 r10 v3 v4 h2 g0 f5 h5 h6 v9 v10 h6 g2 f11 h7 g3 f12)) (w1 := (wd_ec98a0b6 h3 h4 r11 v6 v7 h4 g1 f8)) hP hD [3, 4] [0, 1, 2, 5, 6, 7] rfl rfl (by decide) (by decide) hk1 hFc hP1 hD1
              clear hP hD hPc hDc hKc hFc hP1 hK1 hD1 hk1 hz1
              generalize H1 = H at hP2 hS ⊢
              have hP := hP2.sub (ws' := (wd_f86bdc86 h0 r0 r1 r2 r3 h1 h3 r4 h5 r5 r6 r7 r8 r9 h7 v0 v1 w2 h1 h2 r10 v3 v4 h2 g0 f5 h3 h4 r11 v6 v7 h4 g1 f8 h5 h6 v9 v10 h6 g2 f11 h7 g3 f12)) [0, 1, 2, 6, 7, 3, 4, 5] rfl
              have hD := hD2.sub (ws' := (wd_f86bdc86 h0 r0 r1 r2 r3 h1 h3 r4 h5 r5 r6 r7 r8 r9 h7 v0 v1 w2 h1 h2 r10 v3 v4 h2 g0 f5 h3 h4 r11 v6 v7 h4 g1 f8 h5 h6 v9 v10 h6 g2 f11 h7 g3 f12)) [0, 1, 2, 6, 7, 3, 4, 5] (by decide) rfl
              clear hP2 hD2
              refine lv_iconst (v := 1) hx hb dX11_move_86 (by decide) ?_
              refine lv_icmp_lt (tgt := 114) hx hb dX11_move_87 (by decide) (fun c30 => ?_) (fun c30 => ?_)
              · skip
                have fc30 : ra29.toInt < 1 := Int32.lt_iff_toInt_lt.mp c30
                refine lv_aload_n hx hb dX11_move_114 rfl (lv_at hl 2 rfl) ?_
                refine lv_iconst (v := 3) hx hb dX11_move_115 (by decide) ?_
                have hPc := hP.sub (ws' := (wd_ded466ce h0 r0 r1 r2 r3 h1 h3 r4 h5 r5 r6 r7 r8 r9 h7 v0 v1 w2 h7 g3 f12)) [0, 7] rfl
                have hDc := hD.sub (ws' := (wd_ded466ce h0 r0 r1 r2 r3 h1 h3 r4 h5 r5 r6 r7 r8 r9 h7 v0 v1 w2 h7 g3 f12)) [0, 7] (by decide) rfl
                have hKc := hK.sub (tys' := [(g3, .int)]) [3] rfl
                have hFc := va_free (wc := (wd_ded466ce h0 r0 r1 r2 r3 h1 h3 r4 h5 r5 r6 r7 r8 r9 h7 v0 v1 w2 h7 g3 f12)) hD hS hA [0, 7] rfl
                refine va_calli (va_runV (As := [.int 3]) (rest := []) ⟨hx, hb, hml, hown, hts⟩ (k_X11_refuse l dC dI h0 h7 r0 r1 r2 r3 h1 h3 r4 h5 r5 r6 r7 r8 r9 v0 v1 w2 g3 f12 3 ⟨i_v0a, i_v0b⟩ H.size) (cwV 1 hts g_X11_move_4 rfl rfl rfl (by decide +kernel) ⟨Nat.le_of_ble_eq_true rfl, Nat.le_of_ble_eq_true rfl⟩) (pv_PV11 hPc hKc hDc (q0 := 0) rfl) rfl rfl hl.1 rfl (lv_room (Nat.le_of_ble_eq_true rfl)) dX11_move_116 ⟨Nat.le_of_ble_eq_true rfl, Nat.le_of_ble_eq_true rfl⟩) hS (fun q _ h => hFc q h) hFc (fun ra31 u t H1 locs ht hvm hwra31 hB hz1 hk1 hS => ?_)
                obtain ⟨fn32, hP1, hK1, hD1⟩ := hB
                rw [ht] at hP1
                obtain ⟨hP2, hD2⟩ := va_join (wr := (wd_75a36671 h1 h2 r10 v3 v4 h2 g0 f5 h3 h4 r11 v6 v7 h4 g1 f8 h5 h6 v9 v10 h6 g2 f11)) (w1 := (wd_ded466ce h0 r0 r1 r2 r3 h1 h3 r4 h5 r5 r6 r7 r8 r9 h7 v0 v1 w2 h7 g3 fn32)) hP hD [0, 7] [1, 2, 3, 4, 5, 6] rfl rfl (by decide) (by decide) hk1 hFc hP1 hD1
                clear hP hD hPc hDc hKc hFc hP1 hK1 hD1 hk1 hz1
                generalize H1 = H at hP2 hS ⊢
                have hP := hP2.sub (ws' := (wd_f86bdc86 h0 r0 r1 r2 r3 h1 h3 r4 h5 r5 r6 r7 r8 r9 h7 v0 v1 w2 h1 h2 r10 v3 v4 h2 g0 f5 h3 h4 r11 v6 v7 h4 g1 f8 h5 h6 v9 v10 h6 g2 f11 h7 g3 fn32)) [6, 0, 1, 2, 3, 4, 5, 7] rfl
                have hD := hD2.sub (ws' := (wd_f86bdc86 h0 r0 r1 r2 r3 h1 h3 r4 h5 r5 r6 r7 r8 r9 h7 v0 v1 w2 h1 h2 r10 v3 v4 h2 g0 f5 h3 h4 r11 v6 v7 h4 g1 f8 h5 h6 v9 v10 h6 g2 f11 h7 g3 fn32)) [6, 0, 1, 2, 3, 4, 5, 7] (by decide) rfl
                clear hP2 hD2
                obtain ⟨wa_ra31, wb_ra31⟩ := hwra31
                have wa_ra31 : -1 ≤ ra31.toInt := wa_ra31
                have wb_ra31 : ra31.toInt ≤ -1 := wb_ra31
                subst hQ
                have hP9 := hP.sub (ws' := (wd_f86bdc86 h0 r0 r1 r2 r3 h1 h3 r4 h5 r5 r6 r7 r8 r9 h7 v0 v1 w2 h1 h2 r10 v3 v4 h2 g0 f5 h3 h4 r11 v6 v7 h4 g1 f8 h5 h6 v9 v10 h6 g2 f11 h7 g3 fn32)) [0, 1, 2, 3, 4, 5, 6, 7] rfl
                have hD9 := hD.sub (ws' := (wd_f86bdc86 h0 r0 r1 r2 r3 h1 h3 r4 h5 r5 r6 r7 r8 r9 h7 v0 v1 w2 h1 h2 r10 v3 v4 h2 g0 f5 h3 h4 r11 v6 v7 h4 g1 f8 h5 h6 v9 v10 h6 g2 f11 h7 g3 fn32)) [0, 1, 2, 3, 4, 5, 6, 7] (by decide) rfl
                have hK9 := hK.sub (tys' := []) [] rfl
                exact W.iret (v := ra31) hx hb hr (fun t ht hW => ⟨⟨ra31, (), rfl, trivial, f8, v9, v10, f11, fn32, i_v9a, i_v9b, i_v10a, i_v10b, by rw [ht]; exact hP9, va_K.moved hW.alike hK9, hD9⟩, hS.F ht⟩) hS.2.2 dX11_move_119
              · skip
                have fc30 : ¬ (ra29.toInt < 1) := fun h9 => c30 (Int32.lt_iff_toInt_lt.mpr h9)
                refine lv_aload_n hx hb dX11_move_90 rfl (lv_at hl 2 rfl) ?_
                refine va_get (D := (dC, dI)) (ci := 11) (v := .ref h3) (C := RX11) (T := TX11) (N := 17) hx hb hts (fun _ h => List.mem_cons_of_mem _ (List.mem_append_left _ (List.mem_append_left _ (List.mem_append_left _ (List.mem_append_right _ h))))) hown hK hP 0 rfl rfl 5 (by decide) (hts (.fieldLink RX11 49 "LeftArguments" "room" "LLeftArguments$Room;") (List.mem_cons_of_mem _ (List.mem_append_left _ (List.mem_append_left _ (List.mem_append_left _ (List.mem_append_left _ (List.mem_of_getElem? (i := 0) rfl))))))) (fun _ h9 => h9) rfl dX11_move_91 ?_
                refine lv_aload_n hx hb dX11_move_94 rfl (lv_at hl 2 rfl) ?_
                refine va_get (D := (dC, dI)) (ci := 11) (v := .ref h1) (C := RX11) (T := TX11) (N := 17) hx hb hts (fun _ h => List.mem_cons_of_mem _ (List.mem_append_left _ (List.mem_append_left _ (List.mem_append_left _ (List.mem_append_right _ h))))) hown hK hP 0 rfl rfl 4 (by decide) (hts (.fieldLink RX11 42 "LeftArguments" "office" "LLeftArguments$Office;") (List.mem_cons_of_mem _ (List.mem_append_left _ (List.mem_append_left _ (List.mem_append_left _ (List.mem_append_left _ (List.mem_of_getElem? (i := 42) rfl))))))) (fun _ h9 => h9) rfl dX11_move_95 ?_
                refine lv_iload_n hx hb dX11_move_98 rfl (lv_at hl 4 rfl) ?_
                refine lv_aload_n hx hb dX11_move_99 rfl (lv_at hl 2 rfl) ?_
                refine va_get (D := (dC, dI)) (ci := 11) (v := .ref h3) (C := RX11) (T := TX11) (N := 17) hx hb hts (fun _ h => List.mem_cons_of_mem _ (List.mem_append_left _ (List.mem_append_left _ (List.mem_append_left _ (List.mem_append_right _ h))))) hown hK hP 0 rfl rfl 5 (by decide) (hts (.fieldLink RX11 49 "LeftArguments" "room" "LLeftArguments$Room;") (List.mem_cons_of_mem _ (List.mem_append_left _ (List.mem_append_left _ (List.mem_append_left _ (List.mem_append_left _ (List.mem_of_getElem? (i := 0) rfl))))))) (fun _ h9 => h9) rfl dX11_move_100 ?_
                refine lv_iload_n hx hb dX11_move_103 rfl (lv_at hl 3 rfl) ?_
                refine lv_iconst (v := 0) hx hb dX11_move_104 (by decide) ?_
                have hPc := hP.sub (ws' := (wd_ec98a0b6 h3 h4 r11 v6 v7 h4 g1 f8)) [3, 4] rfl
                have hDc := hD.sub (ws' := (wd_ec98a0b6 h3 h4 r11 v6 v7 h4 g1 f8)) [3, 4] (by decide) rfl
                have hKc := hK.sub (tys' := [(g1, .int)]) [1] rfl
                have hFc := va_free (wc := (wd_ec98a0b6 h3 h4 r11 v6 v7 h4 g1 f8)) hD hS hA [3, 4] rfl
                refine va_calli (va_runV (As := [.int v13, .int 0]) (rest := [.int v14, .ref h1, .ref h3]) ⟨hx, hb, hml, hown, hts⟩ (k_X7_of l dC dI h3 h4 r11 v6 v7 g1 f8 v13 0  H.size) (cwV 2 hts g_X11_move_1 rfl rfl rfl (by decide +kernel) ⟨Nat.le_of_ble_eq_true rfl, Nat.le_of_ble_eq_true rfl⟩) (pv_PV7 hPc hKc hDc (q0 := 0) rfl) rfl rfl hl.1 rfl (lv_room (Nat.le_of_ble_eq_true rfl)) dX11_move_105 ⟨Nat.le_of_ble_eq_true rfl, Nat.le_of_ble_eq_true rfl⟩) hS (fun q _ h => hFc q h) hFc (fun ra33 u t H1 locs ht hvm hwra33 hB hz1 hk1 hS => ?_)
                obtain ⟨hP1, hK1, hD1⟩ := hB
                rw [ht] at hP1
                obtain ⟨hP2, hD2⟩ := va_join (wr := (wd_269e0239 h0 r0 r1 r2 r3 h1 h3 r4 h5 r5 r6 r7 r8 r9 h7 v0 v1 w2 h1 h2 r10 v3 v4 h2 g0 f5 h5 h6 v9 v10 h6 g2 f11 h7 g3 f12)) (w1 := (wd_ec98a0b6 h3 h4 r11 v6 v7 h4 g1 f8)) hP hD [3, 4] [0, 1, 2, 5, 6, 7] rfl rfl (by decide) (by decide) hk1 hFc hP1 hD1
                clear hP hD hPc hDc hKc hFc hP1 hK1 hD1 hk1 hz1
                generalize H1 = H at hP2 hS ⊢
                have hP := hP2.sub (ws' := (wd_f86bdc86 h0 r0 r1 r2 r3 h1 h3 r4 h5 r5 r6 r7 r8 r9 h7 v0 v1 w2 h1 h2 r10 v3 v4 h2 g0 f5 h3 h4 r11 v6 v7 h4 g1 f8 h5 h6 v9 v10 h6 g2 f11 h7 g3 f12)) [0, 1, 2, 6, 7, 3, 4, 5] rfl
                have hD := hD2.sub (ws' := (wd_f86bdc86 h0 r0 r1 r2 r3 h1 h3 r4 h5 r5 r6 r7 r8 r9 h7 v0 v1 w2 h1 h2 r10 v3 v4 h2 g0 f5 h3 h4 r11 v6 v7 h4 g1 f8 h5 h6 v9 v10 h6 g2 f11 h7 g3 f12)) [0, 1, 2, 6, 7, 3, 4, 5] (by decide) rfl
                clear hP2 hD2
                have hPc := hP.sub (ws' := (wd_953d7697 h3 h4 r11 v6 v7 h1 h2 r10 v3 v4 h2 g0 f5 h4 g1 f8)) [3, 1, 2, 4] rfl
                have hDc := hD.sub (ws' := (wd_953d7697 h3 h4 r11 v6 v7 h1 h2 r10 v3 v4 h2 g0 f5 h4 g1 f8)) [3, 1, 2, 4] (by decide) rfl
                have hKc := hK.sub (tys' := [(g0, .int), (g1, .int)]) [0, 1] rfl
                have hFc := va_free (wc := (wd_953d7697 h3 h4 r11 v6 v7 h1 h2 r10 v3 v4 h2 g0 f5 h4 g1 f8)) hD hS hA [3, 1, 2, 4] rfl
                refine va_calli (va_runV (As := [.ref h1, .int v14, .int ra33]) (rest := []) ⟨hx, hb, hml, hown, hts⟩ (k_X7_takes l dC dI h3 h1 h2 h4 r11 v6 v7 r10 v3 v4 g0 f5 g1 f8 v14 ra33 ⟨i_v4a, i_v4b⟩ H.size) (cwV 3 hts g_X11_move_12 rfl rfl rfl (by decide +kernel) ⟨Nat.le_of_ble_eq_true rfl, Nat.le_of_ble_eq_true rfl⟩) (pv_PV7 hPc hKc hDc (q0 := 0) rfl) rfl rfl hl.1 rfl (lv_room (Nat.le_of_ble_eq_true rfl)) dX11_move_108 ⟨Nat.le_of_ble_eq_true rfl, Nat.le_of_ble_eq_true rfl⟩) hS (fun q _ h => hFc q h) hFc (fun ra34 u t H1 locs ht hvm hwra34 hB hz1 hk1 hS => ?_)
                obtain ⟨hP1, hK1, hD1⟩ := hB
                rw [ht] at hP1
                obtain ⟨hP2, hD2⟩ := va_join (wr := (wd_f2ab21b7 h0 r0 r1 r2 r3 h1 h3 r4 h5 r5 r6 r7 r8 r9 h7 v0 v1 w2 h5 h6 v9 v10 h6 g2 f11 h7 g3 f12)) (w1 := (wd_953d7697 h3 h4 r11 v6 v7 h1 h2 r10 v3 v4 h2 g0 f5 h4 g1 f8)) hP hD [3, 1, 2, 4] [0, 5, 6, 7] rfl rfl (by decide) (by decide) hk1 hFc hP1 hD1
                clear hP hD hPc hDc hKc hFc hP1 hK1 hD1 hk1 hz1
                generalize H1 = H at hP2 hS ⊢
                have hP := hP2.sub (ws' := (wd_f86bdc86 h0 r0 r1 r2 r3 h1 h3 r4 h5 r5 r6 r7 r8 r9 h7 v0 v1 w2 h1 h2 r10 v3 v4 h2 g0 f5 h3 h4 r11 v6 v7 h4 g1 f8 h5 h6 v9 v10 h6 g2 f11 h7 g3 f12)) [0, 5, 6, 4, 7, 1, 2, 3] rfl
                have hD := hD2.sub (ws' := (wd_f86bdc86 h0 r0 r1 r2 r3 h1 h3 r4 h5 r5 r6 r7 r8 r9 h7 v0 v1 w2 h1 h2 r10 v3 v4 h2 g0 f5 h3 h4 r11 v6 v7 h4 g1 f8 h5 h6 v9 v10 h6 g2 f11 h7 g3 f12)) [0, 5, 6, 4, 7, 1, 2, 3] (by decide) rfl
                clear hP2 hD2
                obtain ⟨wa_ra34, wb_ra34⟩ := hwra34
                have wa_ra34 : 0 ≤ ra34.toInt := wa_ra34
                have wb_ra34 : ra34.toInt ≤ 1 := wb_ra34
                refine lv_if_ne (tgt := 120) hx hb dX11_move_111 (by decide) (fun c35 => ?_) (fun c35 => ?_)
                · skip
                  have fc35 : ¬ (ra34.toInt = 0) := fun h9 => c35 (Int32.toInt_inj.mp h9)
                  refine lv_aload_n hx hb dX11_move_120 rfl (lv_at hl 2 rfl) ?_
                  refine va_get (D := (dC, dI)) (ci := 11) (v := .ref h5) (C := RX11) (T := TX11) (N := 17) hx hb hts (fun _ h => List.mem_cons_of_mem _ (List.mem_append_left _ (List.mem_append_left _ (List.mem_append_left _ (List.mem_append_right _ h))))) hown hK hP 0 rfl rfl 7 (by decide) (hts (.fieldLink RX11 63 "LeftArguments" "acts" "LLeftArguments$Acts;") (List.mem_cons_of_mem _ (List.mem_append_left _ (List.mem_append_left _ (List.mem_append_left _ (List.mem_append_left _ (List.mem_of_getElem? (i := 11) rfl))))))) (fun _ h9 => h9) rfl dX11_move_121 ?_
                  refine lv_aload_n hx hb dX11_move_124 rfl (lv_at hl 2 rfl) ?_
                  refine va_get (D := (dC, dI)) (ci := 11) (v := .ref h3) (C := RX11) (T := TX11) (N := 17) hx hb hts (fun _ h => List.mem_cons_of_mem _ (List.mem_append_left _ (List.mem_append_left _ (List.mem_append_left _ (List.mem_append_right _ h))))) hown hK hP 0 rfl rfl 5 (by decide) (hts (.fieldLink RX11 49 "LeftArguments" "room" "LLeftArguments$Room;") (List.mem_cons_of_mem _ (List.mem_append_left _ (List.mem_append_left _ (List.mem_append_left _ (List.mem_append_left _ (List.mem_of_getElem? (i := 0) rfl))))))) (fun _ h9 => h9) rfl dX11_move_125 ?_
                  have hPc := hP.sub (ws' := (wd_98775811 h5 h6 v9 v10 h3 h4 r11 v6 v7 h4 g1 f8 h6 g2 f11)) [5, 3, 4, 6] rfl
                  have hDc := hD.sub (ws' := (wd_98775811 h5 h6 v9 v10 h3 h4 r11 v6 v7 h4 g1 f8 h6 g2 f11)) [5, 3, 4, 6] (by decide) rfl
                  have hKc := hK.sub (tys' := [(g1, .int), (g2, .int)]) [1, 2] rfl
                  have hFc := va_free (wc := (wd_98775811 h5 h6 v9 v10 h3 h4 r11 v6 v7 h4 g1 f8 h6 g2 f11)) hD hS hA [5, 3, 4, 6] rfl
                  refine va_callv (va_runV (As := [.ref h3]) (rest := []) ⟨hx, hb, hml, hown, hts⟩ (k_X0_keep l dC dI h5 h3 h4 h6 v9 v10 r11 v6 v7 g1 f8 g2 f11 ⟨i_v9a, i_v9b⟩ ⟨i_v10a, i_v10b⟩ H.size) (cwV 1 hts g_X11_move_2 rfl rfl rfl (by decide +kernel) ⟨Nat.le_of_ble_eq_true rfl, Nat.le_of_ble_eq_true rfl⟩) (pv_PV0 hPc hKc hDc (q0 := 0) rfl) rfl rfl hl.1 rfl (lv_room (Nat.le_of_ble_eq_true rfl)) dX11_move_128 ⟨Nat.le_of_ble_eq_true rfl, Nat.le_of_ble_eq_true rfl⟩) hS (fun q _ h => hFc q h) hFc (fun u t H1 locs ht hvm hwra36 hB hz1 hk1 hS => ?_)
                  obtain ⟨x37, x38, fn39, oa_x37, ob_x37, oa_x38, ob_x38, hP1, hK1, hD1⟩ := hB
                  rw [ht] at hP1
                  obtain ⟨hP2, hD2⟩ := va_join (wr := (wd_f9ff5482 h0 r0 r1 r2 r3 h1 h3 r4 h5 r5 r6 r7 r8 r9 h7 v0 v1 w2 h1 h2 r10 v3 v4 h2 g0 f5 h7 g3 f12)) (w1 := (wd_98775811 h5 h6 x37 x38 h3 h4 r11 v6 v7 h4 g1 f8 h6 g2 fn39)) hP hD [5, 3, 4, 6] [0, 1, 2, 7] rfl rfl (by decide) (by decide) hk1 hFc hP1 hD1
                  clear hP hD hPc hDc hKc hFc hP1 hK1 hD1 hk1 hz1
                  generalize H1 = H at hP2 hS ⊢
                  have hP := hP2.sub (ws' := (wd_f86bdc86 h0 r0 r1 r2 r3 h1 h3 r4 h5 r5 r6 r7 r8 r9 h7 v0 v1 w2 h1 h2 r10 v3 v4 h2 g0 f5 h3 h4 r11 v6 v7 h4 g1 f8 h5 h6 x37 x38 h6 g2 fn39 h7 g3 f12)) [0, 1, 2, 5, 6, 4, 7, 3] rfl
                  have hD := hD2.sub (ws' := (wd_f86bdc86 h0 r0 r1 r2 r3 h1 h3 r4 h5 r5 r6 r7 r8 r9 h7 v0 v1 w2 h1 h2 r10 v3 v4 h2 g0 f5 h3 h4 r11 v6 v7 h4 g1 f8 h5 h6 x37 x38 h6 g2 fn39 h7 g3 f12)) [0, 1, 2, 5, 6, 4, 7, 3] (by decide) rfl
                  clear hP2 hD2
                  refine lv_aload_n hx hb dX11_move_131 rfl (lv_at hl 2 rfl) ?_
                  refine va_get (D := (dC, dI)) (ci := 11) (v := .ref h3) (C := RX11) (T := TX11) (N := 17) hx hb hts (fun _ h => List.mem_cons_of_mem _ (List.mem_append_left _ (List.mem_append_left _ (List.mem_append_left _ (List.mem_append_right _ h))))) hown hK hP 0 rfl rfl 5 (by decide) (hts (.fieldLink RX11 49 "LeftArguments" "room" "LLeftArguments$Room;") (List.mem_cons_of_mem _ (List.mem_append_left _ (List.mem_append_left _ (List.mem_append_left _ (List.mem_append_left _ (List.mem_of_getElem? (i := 0) rfl))))))) (fun _ h9 => h9) rfl dX11_move_132 ?_
                  refine lv_iload_n hx hb dX11_move_135 rfl (lv_at hl 3 rfl) ?_
                  refine lv_iconst (v := 3) hx hb dX11_move_136 (by decide) ?_
                  refine lv_iload_n hx hb dX11_move_137 rfl (lv_at hl 4 rfl) ?_
                  have hPc := hP.sub (ws' := (wd_ec98a0b6 h3 h4 r11 v6 v7 h4 g1 f8)) [3, 4] rfl
                  have hDc := hD.sub (ws' := (wd_ec98a0b6 h3 h4 r11 v6 v7 h4 g1 f8)) [3, 4] (by decide) rfl
                  have hKc := hK.sub (tys' := [(g1, .int)]) [1] rfl
                  have hFc := va_free (wc := (wd_ec98a0b6 h3 h4 r11 v6 v7 h4 g1 f8)) hD hS hA [3, 4] rfl
                  refine va_callv (va_runV (As := [.int v13, .int 3, .int v14]) (rest := []) ⟨hx, hb, hml, hown, hts⟩ (k_X7_set l dC dI h3 h4 r11 v6 v7 g1 f8 v13 3 v14  H.size) (cwV 3 hts g_X11_move_3 rfl rfl rfl (by decide +kernel) ⟨Nat.le_of_ble_eq_true rfl, Nat.le_of_ble_eq_true rfl⟩) (pv_PV7 hPc hKc hDc (q0 := 0) rfl) rfl rfl hl.1 rfl (lv_room (Nat.le_of_ble_eq_true rfl)) dX11_move_138 ⟨Nat.le_of_ble_eq_true rfl, Nat.le_of_ble_eq_true rfl⟩) hS (fun q _ h => hFc q h) hFc (fun u t H1 locs ht hvm hwra40 hB hz1 hk1 hS => ?_)
                  obtain ⟨fn41, hP1, hK1, hD1⟩ := hB
                  rw [ht] at hP1
                  obtain ⟨hP2, hD2⟩ := va_join (wr := (wd_269e0239 h0 r0 r1 r2 r3 h1 h3 r4 h5 r5 r6 r7 r8 r9 h7 v0 v1 w2 h1 h2 r10 v3 v4 h2 g0 f5 h5 h6 x37 x38 h6 g2 fn39 h7 g3 f12)) (w1 := (wd_ec98a0b6 h3 h4 r11 v6 v7 h4 g1 fn41)) hP hD [3, 4] [0, 1, 2, 5, 6, 7] rfl rfl (by decide) (by decide) hk1 hFc hP1 hD1
                  clear hP hD hPc hDc hKc hFc hP1 hK1 hD1 hk1 hz1
                  generalize H1 = H at hP2 hS ⊢
                  have hP := hP2.sub (ws' := (wd_f86bdc86 h0 r0 r1 r2 r3 h1 h3 r4 h5 r5 r6 r7 r8 r9 h7 v0 v1 w2 h1 h2 r10 v3 v4 h2 g0 f5 h3 h4 r11 v6 v7 h4 g1 fn41 h5 h6 x37 x38 h6 g2 fn39 h7 g3 f12)) [0, 1, 2, 6, 7, 3, 4, 5] rfl
                  have hD := hD2.sub (ws' := (wd_f86bdc86 h0 r0 r1 r2 r3 h1 h3 r4 h5 r5 r6 r7 r8 r9 h7 v0 v1 w2 h1 h2 r10 v3 v4 h2 g0 f5 h3 h4 r11 v6 v7 h4 g1 fn41 h5 h6 x37 x38 h6 g2 fn39 h7 g3 f12)) [0, 1, 2, 6, 7, 3, 4, 5] (by decide) rfl
                  clear hP2 hD2
                  refine lv_iload hx hb dX11_move_141 (lv_at hl 0 rfl) ?_
                  refine lv_if_ne (tgt := 154) hx hb dX11_move_143 (by decide) (fun c42 => by exfalso; have fc42 : ¬ (x19.toInt = 0) := fun h9 => c42 (Int32.toInt_inj.mp h9); omega) (fun _ => ?_)
                  refine lv_aload_n hx hb dX11_move_146 rfl (lv_at hl 2 rfl) ?_
                  refine va_get (D := (dC, dI)) (ci := 11) (v := .ref h3) (C := RX11) (T := TX11) (N := 17) hx hb hts (fun _ h => List.mem_cons_of_mem _ (List.mem_append_left _ (List.mem_append_left _ (List.mem_append_left _ (List.mem_append_right _ h))))) hown hK hP 0 rfl rfl 5 (by decide) (hts (.fieldLink RX11 49 "LeftArguments" "room" "LLeftArguments$Room;") (List.mem_cons_of_mem _ (List.mem_append_left _ (List.mem_append_left _ (List.mem_append_left _ (List.mem_append_left _ (List.mem_of_getElem? (i := 0) rfl))))))) (fun _ h9 => h9) rfl dX11_move_147 ?_
                  refine lv_iconst (v := (-1)) hx hb dX11_move_150 (by decide) ?_
                  have hPc := hP.sub (ws' := (wd_ec98a0b6 h3 h4 r11 v6 v7 h4 g1 fn41)) [3, 4] rfl
                  have hDc := hD.sub (ws' := (wd_ec98a0b6 h3 h4 r11 v6 v7 h4 g1 fn41)) [3, 4] (by decide) rfl
                  have hKc := hK.sub (tys' := [(g1, .int)]) [1] rfl
                  have hFc := va_free (wc := (wd_ec98a0b6 h3 h4 r11 v6 v7 h4 g1 fn41)) hD hS hA [3, 4] rfl
                  refine va_callv (va_runV (As := [.int (-1)]) (rest := []) ⟨hx, hb, hml, hown, hts⟩ (k_X7_gain l dC dI h3 h4 r11 v6 v7 g1 fn41 ((-1))  H.size) (cwV 1 hts g_X11_move_15 rfl rfl rfl (by decide +kernel) ⟨Nat.le_of_ble_eq_true rfl, Nat.le_of_ble_eq_true rfl⟩) (pv_PV7 hPc hKc hDc (q0 := 0) rfl) rfl rfl hl.1 rfl (lv_room (Nat.le_of_ble_eq_true rfl)) dX11_move_151 ⟨Nat.le_of_ble_eq_true rfl, Nat.le_of_ble_eq_true rfl⟩) hS (fun q _ h => hFc q h) hFc (fun u t H1 locs ht hvm hwra43 hB hz1 hk1 hS => ?_)
                  obtain ⟨fn44, hP1, hK1, hD1⟩ := hB
                  rw [ht] at hP1
                  obtain ⟨hP2, hD2⟩ := va_join (wr := (wd_269e0239 h0 r0 r1 r2 r3 h1 h3 r4 h5 r5 r6 r7 r8 r9 h7 v0 v1 w2 h1 h2 r10 v3 v4 h2 g0 f5 h5 h6 x37 x38 h6 g2 fn39 h7 g3 f12)) (w1 := (wd_ec98a0b6 h3 h4 r11 v6 v7 h4 g1 fn44)) hP hD [3, 4] [0, 1, 2, 5, 6, 7] rfl rfl (by decide) (by decide) hk1 hFc hP1 hD1
                  clear hP hD hPc hDc hKc hFc hP1 hK1 hD1 hk1 hz1
                  generalize H1 = H at hP2 hS ⊢
                  have hP := hP2.sub (ws' := (wd_f86bdc86 h0 r0 r1 r2 r3 h1 h3 r4 h5 r5 r6 r7 r8 r9 h7 v0 v1 w2 h1 h2 r10 v3 v4 h2 g0 f5 h3 h4 r11 v6 v7 h4 g1 fn44 h5 h6 x37 x38 h6 g2 fn39 h7 g3 f12)) [0, 1, 2, 6, 7, 3, 4, 5] rfl
                  have hD := hD2.sub (ws' := (wd_f86bdc86 h0 r0 r1 r2 r3 h1 h3 r4 h5 r5 r6 r7 r8 r9 h7 v0 v1 w2 h1 h2 r10 v3 v4 h2 g0 f5 h3 h4 r11 v6 v7 h4 g1 fn44 h5 h6 x37 x38 h6 g2 fn39 h7 g3 f12)) [0, 1, 2, 6, 7, 3, 4, 5] (by decide) rfl
                  clear hP2 hD2
                  refine lv_iload_n hx hb dX11_move_154 rfl (lv_at hl 1 rfl) ?_
                  subst hQ
                  have hP9 := hP.sub (ws' := (wd_f86bdc86 h0 r0 r1 r2 r3 h1 h3 r4 h5 r5 r6 r7 r8 r9 h7 v0 v1 w2 h1 h2 r10 v3 v4 h2 g0 f5 h3 h4 r11 v6 v7 h4 g1 fn44 h5 h6 x37 x38 h6 g2 fn39 h7 g3 f12)) [0, 1, 2, 3, 4, 5, 6, 7] rfl
                  have hD9 := hD.sub (ws' := (wd_f86bdc86 h0 r0 r1 r2 r3 h1 h3 r4 h5 r5 r6 r7 r8 r9 h7 v0 v1 w2 h1 h2 r10 v3 v4 h2 g0 f5 h3 h4 r11 v6 v7 h4 g1 fn44 h5 h6 x37 x38 h6 g2 fn39 h7 g3 f12)) [0, 1, 2, 3, 4, 5, 6, 7] (by decide) rfl
                  have hK9 := hK.sub (tys' := []) [] rfl
                  exact W.iret (v := ra17) hx hb hr (fun t ht hW => ⟨⟨ra17, (), rfl, trivial, fn44, x37, x38, fn39, f12, oa_x37, ob_x37, oa_x38, ob_x38, by rw [ht]; exact hP9, va_K.moved hW.alike hK9, hD9⟩, hS.F ht⟩) hS.2.2 dX11_move_155
                · skip
                  have fc35 : ra34.toInt = 0 := congrArg Int32.toInt c35
                  refine lv_aload_n hx hb dX11_move_114 rfl (lv_at hl 2 rfl) ?_
                  refine lv_iconst (v := 3) hx hb dX11_move_115 (by decide) ?_
                  have hPc := hP.sub (ws' := (wd_ded466ce h0 r0 r1 r2 r3 h1 h3 r4 h5 r5 r6 r7 r8 r9 h7 v0 v1 w2 h7 g3 f12)) [0, 7] rfl
                  have hDc := hD.sub (ws' := (wd_ded466ce h0 r0 r1 r2 r3 h1 h3 r4 h5 r5 r6 r7 r8 r9 h7 v0 v1 w2 h7 g3 f12)) [0, 7] (by decide) rfl
                  have hKc := hK.sub (tys' := [(g3, .int)]) [3] rfl
                  have hFc := va_free (wc := (wd_ded466ce h0 r0 r1 r2 r3 h1 h3 r4 h5 r5 r6 r7 r8 r9 h7 v0 v1 w2 h7 g3 f12)) hD hS hA [0, 7] rfl
                  refine va_calli (va_runV (As := [.int 3]) (rest := []) ⟨hx, hb, hml, hown, hts⟩ (k_X11_refuse l dC dI h0 h7 r0 r1 r2 r3 h1 h3 r4 h5 r5 r6 r7 r8 r9 v0 v1 w2 g3 f12 3 ⟨i_v0a, i_v0b⟩ H.size) (cwV 1 hts g_X11_move_4 rfl rfl rfl (by decide +kernel) ⟨Nat.le_of_ble_eq_true rfl, Nat.le_of_ble_eq_true rfl⟩) (pv_PV11 hPc hKc hDc (q0 := 0) rfl) rfl rfl hl.1 rfl (lv_room (Nat.le_of_ble_eq_true rfl)) dX11_move_116 ⟨Nat.le_of_ble_eq_true rfl, Nat.le_of_ble_eq_true rfl⟩) hS (fun q _ h => hFc q h) hFc (fun ra45 u t H1 locs ht hvm hwra45 hB hz1 hk1 hS => ?_)
                  obtain ⟨fn46, hP1, hK1, hD1⟩ := hB
                  rw [ht] at hP1
                  obtain ⟨hP2, hD2⟩ := va_join (wr := (wd_75a36671 h1 h2 r10 v3 v4 h2 g0 f5 h3 h4 r11 v6 v7 h4 g1 f8 h5 h6 v9 v10 h6 g2 f11)) (w1 := (wd_ded466ce h0 r0 r1 r2 r3 h1 h3 r4 h5 r5 r6 r7 r8 r9 h7 v0 v1 w2 h7 g3 fn46)) hP hD [0, 7] [1, 2, 3, 4, 5, 6] rfl rfl (by decide) (by decide) hk1 hFc hP1 hD1
                  clear hP hD hPc hDc hKc hFc hP1 hK1 hD1 hk1 hz1
                  generalize H1 = H at hP2 hS ⊢
                  have hP := hP2.sub (ws' := (wd_f86bdc86 h0 r0 r1 r2 r3 h1 h3 r4 h5 r5 r6 r7 r8 r9 h7 v0 v1 w2 h1 h2 r10 v3 v4 h2 g0 f5 h3 h4 r11 v6 v7 h4 g1 f8 h5 h6 v9 v10 h6 g2 f11 h7 g3 fn46)) [6, 0, 1, 2, 3, 4, 5, 7] rfl
                  have hD := hD2.sub (ws' := (wd_f86bdc86 h0 r0 r1 r2 r3 h1 h3 r4 h5 r5 r6 r7 r8 r9 h7 v0 v1 w2 h1 h2 r10 v3 v4 h2 g0 f5 h3 h4 r11 v6 v7 h4 g1 f8 h5 h6 v9 v10 h6 g2 f11 h7 g3 fn46)) [6, 0, 1, 2, 3, 4, 5, 7] (by decide) rfl
                  clear hP2 hD2
                  obtain ⟨wa_ra45, wb_ra45⟩ := hwra45
                  have wa_ra45 : -1 ≤ ra45.toInt := wa_ra45
                  have wb_ra45 : ra45.toInt ≤ -1 := wb_ra45
                  subst hQ
                  have hP9 := hP.sub (ws' := (wd_f86bdc86 h0 r0 r1 r2 r3 h1 h3 r4 h5 r5 r6 r7 r8 r9 h7 v0 v1 w2 h1 h2 r10 v3 v4 h2 g0 f5 h3 h4 r11 v6 v7 h4 g1 f8 h5 h6 v9 v10 h6 g2 f11 h7 g3 fn46)) [0, 1, 2, 3, 4, 5, 6, 7] rfl
                  have hD9 := hD.sub (ws' := (wd_f86bdc86 h0 r0 r1 r2 r3 h1 h3 r4 h5 r5 r6 r7 r8 r9 h7 v0 v1 w2 h1 h2 r10 v3 v4 h2 g0 f5 h3 h4 r11 v6 v7 h4 g1 f8 h5 h6 v9 v10 h6 g2 f11 h7 g3 fn46)) [0, 1, 2, 3, 4, 5, 6, 7] (by decide) rfl
                  have hK9 := hK.sub (tys' := []) [] rfl
                  exact W.iret (v := ra45) hx hb hr (fun t ht hW => ⟨⟨ra45, (), rfl, trivial, f8, v9, v10, f11, fn46, i_v9a, i_v9b, i_v10a, i_v10b, by rw [ht]; exact hP9, va_K.moved hW.alike hK9, hD9⟩, hS.F ht⟩) hS.2.2 dX11_move_119
          refine lv_icmp_ne (tgt := 71) hx hb dX11_move_64 (by decide) (fun c47 => ?_) (fun c47 => ?_)
          · skip
            have fc47 : ¬ (v14.toInt = 9) := fun h9 => c47 (Int32.toInt_inj.mp h9)
            refine lv_iconst (v := 0) hx hb dX11_move_71 (by decide) ?_
            exact hJ20 0 H locs ls (by decide) (by decide) hP hD hS (lv_sub hl [0, 1, 2, 3] rfl)
          · skip
            have fc47 : v14.toInt = 9 := congrArg Int32.toInt c47
            refine lv_iconst (v := 1) hx hb dX11_move_67 (by decide) ?_
            refine lv_goto (tgt := 72) hx hb dX11_move_68 (by decide) ?_
            exact hJ20 1 H locs ls (by decide) (by decide) hP hD hS (lv_sub hl [0, 1, 2, 3] rfl)
        · skip
          have fc18 : ra17.toInt = v14.toInt := congrArg Int32.toInt c18
          have r1c18 := Int32.toInt_lt ra17
          have r2c18 := Int32.toInt_lt v14
          have r3c18 := Int32.le_toInt ra17
          have r4c18 := Int32.le_toInt v14
          refine lv_aload_n hx hb dX11_move_55 rfl (lv_at hl 1 rfl) ?_
          refine lv_iconst (v := 2) hx hb dX11_move_56 (by decide) ?_
          have hPc := hP.sub (ws' := (wd_ded466ce h0 r0 r1 r2 r3 h1 h3 r4 h5 r5 r6 r7 r8 r9 h7 v0 v1 w2 h7 g3 f12)) [0, 7] rfl
          have hDc := hD.sub (ws' := (wd_ded466ce h0 r0 r1 r2 r3 h1 h3 r4 h5 r5 r6 r7 r8 r9 h7 v0 v1 w2 h7 g3 f12)) [0, 7] (by decide) rfl
          have hKc := hK.sub (tys' := [(g3, .int)]) [3] rfl
          have hFc := va_free (wc := (wd_ded466ce h0 r0 r1 r2 r3 h1 h3 r4 h5 r5 r6 r7 r8 r9 h7 v0 v1 w2 h7 g3 f12)) hD hS hA [0, 7] rfl
          refine va_calli (va_runV (As := [.int 2]) (rest := []) ⟨hx, hb, hml, hown, hts⟩ (k_X11_refuse l dC dI h0 h7 r0 r1 r2 r3 h1 h3 r4 h5 r5 r6 r7 r8 r9 v0 v1 w2 g3 f12 2 ⟨i_v0a, i_v0b⟩ H.size) (cwV 1 hts g_X11_move_4 rfl rfl rfl (by decide +kernel) ⟨Nat.le_of_ble_eq_true rfl, Nat.le_of_ble_eq_true rfl⟩) (pv_PV11 hPc hKc hDc (q0 := 0) rfl) rfl rfl hl.1 rfl (lv_room (Nat.le_of_ble_eq_true rfl)) dX11_move_57 ⟨Nat.le_of_ble_eq_true rfl, Nat.le_of_ble_eq_true rfl⟩) hS (fun q _ h => hFc q h) hFc (fun ra48 u t H1 locs ht hvm hwra48 hB hz1 hk1 hS => ?_)
          obtain ⟨fn49, hP1, hK1, hD1⟩ := hB
          rw [ht] at hP1
          obtain ⟨hP2, hD2⟩ := va_join (wr := (wd_75a36671 h1 h2 r10 v3 v4 h2 g0 f5 h3 h4 r11 v6 v7 h4 g1 f8 h5 h6 v9 v10 h6 g2 f11)) (w1 := (wd_ded466ce h0 r0 r1 r2 r3 h1 h3 r4 h5 r5 r6 r7 r8 r9 h7 v0 v1 w2 h7 g3 fn49)) hP hD [0, 7] [1, 2, 3, 4, 5, 6] rfl rfl (by decide) (by decide) hk1 hFc hP1 hD1
          clear hP hD hPc hDc hKc hFc hP1 hK1 hD1 hk1 hz1
          generalize H1 = H at hP2 hS ⊢
          have hP := hP2.sub (ws' := (wd_f86bdc86 h0 r0 r1 r2 r3 h1 h3 r4 h5 r5 r6 r7 r8 r9 h7 v0 v1 w2 h1 h2 r10 v3 v4 h2 g0 f5 h3 h4 r11 v6 v7 h4 g1 f8 h5 h6 v9 v10 h6 g2 f11 h7 g3 fn49)) [6, 0, 1, 2, 3, 4, 5, 7] rfl
          have hD := hD2.sub (ws' := (wd_f86bdc86 h0 r0 r1 r2 r3 h1 h3 r4 h5 r5 r6 r7 r8 r9 h7 v0 v1 w2 h1 h2 r10 v3 v4 h2 g0 f5 h3 h4 r11 v6 v7 h4 g1 f8 h5 h6 v9 v10 h6 g2 f11 h7 g3 fn49)) [6, 0, 1, 2, 3, 4, 5, 7] (by decide) rfl
          clear hP2 hD2
          obtain ⟨wa_ra48, wb_ra48⟩ := hwra48
          have wa_ra48 : -1 ≤ ra48.toInt := wa_ra48
          have wb_ra48 : ra48.toInt ≤ -1 := wb_ra48
          subst hQ
          have hP9 := hP.sub (ws' := (wd_f86bdc86 h0 r0 r1 r2 r3 h1 h3 r4 h5 r5 r6 r7 r8 r9 h7 v0 v1 w2 h1 h2 r10 v3 v4 h2 g0 f5 h3 h4 r11 v6 v7 h4 g1 f8 h5 h6 v9 v10 h6 g2 f11 h7 g3 fn49)) [0, 1, 2, 3, 4, 5, 6, 7] rfl
          have hD9 := hD.sub (ws' := (wd_f86bdc86 h0 r0 r1 r2 r3 h1 h3 r4 h5 r5 r6 r7 r8 r9 h7 v0 v1 w2 h1 h2 r10 v3 v4 h2 g0 f5 h3 h4 r11 v6 v7 h4 g1 f8 h5 h6 v9 v10 h6 g2 f11 h7 g3 fn49)) [0, 1, 2, 3, 4, 5, 6, 7] (by decide) rfl
          have hK9 := hK.sub (tys' := []) [] rfl
          exact W.iret (v := ra48) hx hb hr (fun t ht hW => ⟨⟨ra48, (), rfl, trivial, f8, v9, v10, f11, fn49, i_v9a, i_v9b, i_v10a, i_v10b, by rw [ht]; exact hP9, va_K.moved hW.alike hK9, hD9⟩, hS.F ht⟩) hS.2.2 dX11_move_60
      · skip
        have fc16 : ra15.toInt = 0 := congrArg Int32.toInt c16
        refine lv_aload_n hx hb dX11_move_34 rfl (lv_at hl 0 rfl) ?_
        refine lv_iconst (v := 1) hx hb dX11_move_35 (by decide) ?_
        have hPc := hP.sub (ws' := (wd_ded466ce h0 r0 r1 r2 r3 h1 h3 r4 h5 r5 r6 r7 r8 r9 h7 v0 v1 w2 h7 g3 f12)) [0, 7] rfl
        have hDc := hD.sub (ws' := (wd_ded466ce h0 r0 r1 r2 r3 h1 h3 r4 h5 r5 r6 r7 r8 r9 h7 v0 v1 w2 h7 g3 f12)) [0, 7] (by decide) rfl
        have hKc := hK.sub (tys' := [(g3, .int)]) [3] rfl
        have hFc := va_free (wc := (wd_ded466ce h0 r0 r1 r2 r3 h1 h3 r4 h5 r5 r6 r7 r8 r9 h7 v0 v1 w2 h7 g3 f12)) hD hS hA [0, 7] rfl
        refine va_calli (va_runV (As := [.int 1]) (rest := []) ⟨hx, hb, hml, hown, hts⟩ (k_X11_refuse l dC dI h0 h7 r0 r1 r2 r3 h1 h3 r4 h5 r5 r6 r7 r8 r9 v0 v1 w2 g3 f12 1 ⟨i_v0a, i_v0b⟩ H.size) (cwV 1 hts g_X11_move_4 rfl rfl rfl (by decide +kernel) ⟨Nat.le_of_ble_eq_true rfl, Nat.le_of_ble_eq_true rfl⟩) (pv_PV11 hPc hKc hDc (q0 := 0) rfl) rfl rfl hl.1 rfl (lv_room (Nat.le_of_ble_eq_true rfl)) dX11_move_36 ⟨Nat.le_of_ble_eq_true rfl, Nat.le_of_ble_eq_true rfl⟩) hS (fun q _ h => hFc q h) hFc (fun ra50 u t H1 locs ht hvm hwra50 hB hz1 hk1 hS => ?_)
        obtain ⟨fn51, hP1, hK1, hD1⟩ := hB
        rw [ht] at hP1
        obtain ⟨hP2, hD2⟩ := va_join (wr := (wd_75a36671 h1 h2 r10 v3 v4 h2 g0 f5 h3 h4 r11 v6 v7 h4 g1 f8 h5 h6 v9 v10 h6 g2 f11)) (w1 := (wd_ded466ce h0 r0 r1 r2 r3 h1 h3 r4 h5 r5 r6 r7 r8 r9 h7 v0 v1 w2 h7 g3 fn51)) hP hD [0, 7] [1, 2, 3, 4, 5, 6] rfl rfl (by decide) (by decide) hk1 hFc hP1 hD1
        clear hP hD hPc hDc hKc hFc hP1 hK1 hD1 hk1 hz1
        generalize H1 = H at hP2 hS ⊢
        have hP := hP2.sub (ws' := (wd_f86bdc86 h0 r0 r1 r2 r3 h1 h3 r4 h5 r5 r6 r7 r8 r9 h7 v0 v1 w2 h1 h2 r10 v3 v4 h2 g0 f5 h3 h4 r11 v6 v7 h4 g1 f8 h5 h6 v9 v10 h6 g2 f11 h7 g3 fn51)) [6, 0, 1, 2, 3, 4, 5, 7] rfl
        have hD := hD2.sub (ws' := (wd_f86bdc86 h0 r0 r1 r2 r3 h1 h3 r4 h5 r5 r6 r7 r8 r9 h7 v0 v1 w2 h1 h2 r10 v3 v4 h2 g0 f5 h3 h4 r11 v6 v7 h4 g1 f8 h5 h6 v9 v10 h6 g2 f11 h7 g3 fn51)) [6, 0, 1, 2, 3, 4, 5, 7] (by decide) rfl
        clear hP2 hD2
        obtain ⟨wa_ra50, wb_ra50⟩ := hwra50
        have wa_ra50 : -1 ≤ ra50.toInt := wa_ra50
        have wb_ra50 : ra50.toInt ≤ -1 := wb_ra50
        subst hQ
        have hP9 := hP.sub (ws' := (wd_f86bdc86 h0 r0 r1 r2 r3 h1 h3 r4 h5 r5 r6 r7 r8 r9 h7 v0 v1 w2 h1 h2 r10 v3 v4 h2 g0 f5 h3 h4 r11 v6 v7 h4 g1 f8 h5 h6 v9 v10 h6 g2 f11 h7 g3 fn51)) [0, 1, 2, 3, 4, 5, 6, 7] rfl
        have hD9 := hD.sub (ws' := (wd_f86bdc86 h0 r0 r1 r2 r3 h1 h3 r4 h5 r5 r6 r7 r8 r9 h7 v0 v1 w2 h1 h2 r10 v3 v4 h2 g0 f5 h3 h4 r11 v6 v7 h4 g1 f8 h5 h6 v9 v10 h6 g2 f11 h7 g3 fn51)) [0, 1, 2, 3, 4, 5, 6, 7] (by decide) rfl
        have hK9 := hK.sub (tys' := []) [] rfl
        exact W.iret (v := ra50) hx hb hr (fun t ht hW => ⟨⟨ra50, (), rfl, trivial, f8, v9, v10, f11, fn51, i_v9a, i_v9b, i_v10a, i_v10b, by rw [ht]; exact hP9, va_K.moved hW.alike hK9, hD9⟩, hS.F ht⟩) hS.2.2 dX11_move_39
  · skip
    have fc2 : ra1.toInt = 0 := congrArg Int32.toInt c2
    refine lv_aload_n hx hb dX11_move_11 rfl (lv_at hl 0 rfl) ?_
    refine lv_iconst (v := 0) hx hb dX11_move_12 (by decide) ?_
    have hPc := hP.sub (ws' := (wd_ded466ce h0 r0 r1 r2 r3 h1 h3 r4 h5 r5 r6 r7 r8 r9 h7 v0 v1 w2 h7 g3 f12)) [0, 7] rfl
    have hDc := hD.sub (ws' := (wd_ded466ce h0 r0 r1 r2 r3 h1 h3 r4 h5 r5 r6 r7 r8 r9 h7 v0 v1 w2 h7 g3 f12)) [0, 7] (by decide) rfl
    have hKc := hK.sub (tys' := [(g3, .int)]) [3] rfl
    have hFc := va_free (wc := (wd_ded466ce h0 r0 r1 r2 r3 h1 h3 r4 h5 r5 r6 r7 r8 r9 h7 v0 v1 w2 h7 g3 f12)) hD hS hA [0, 7] rfl
    refine va_calli (va_runV (As := [.int 0]) (rest := []) ⟨hx, hb, hml, hown, hts⟩ (k_X11_refuse l dC dI h0 h7 r0 r1 r2 r3 h1 h3 r4 h5 r5 r6 r7 r8 r9 v0 v1 w2 g3 f12 0 ⟨i_v0a, i_v0b⟩ H.size) (cwV 1 hts g_X11_move_4 rfl rfl rfl (by decide +kernel) ⟨Nat.le_of_ble_eq_true rfl, Nat.le_of_ble_eq_true rfl⟩) (pv_PV11 hPc hKc hDc (q0 := 0) rfl) rfl rfl hl.1 rfl (lv_room (Nat.le_of_ble_eq_true rfl)) dX11_move_13 ⟨Nat.le_of_ble_eq_true rfl, Nat.le_of_ble_eq_true rfl⟩) hS (fun q _ h => hFc q h) hFc (fun ra52 u t H1 locs ht hvm hwra52 hB hz1 hk1 hS => ?_)
    obtain ⟨fn53, hP1, hK1, hD1⟩ := hB
    rw [ht] at hP1
    obtain ⟨hP2, hD2⟩ := va_join (wr := (wd_75a36671 h1 h2 r10 v3 v4 h2 g0 f5 h3 h4 r11 v6 v7 h4 g1 f8 h5 h6 v9 v10 h6 g2 f11)) (w1 := (wd_ded466ce h0 r0 r1 r2 r3 h1 h3 r4 h5 r5 r6 r7 r8 r9 h7 v0 v1 w2 h7 g3 fn53)) hP hD [0, 7] [1, 2, 3, 4, 5, 6] rfl rfl (by decide) (by decide) hk1 hFc hP1 hD1
    clear hP hD hPc hDc hKc hFc hP1 hK1 hD1 hk1 hz1
    generalize H1 = H at hP2 hS ⊢
    have hP := hP2.sub (ws' := (wd_f86bdc86 h0 r0 r1 r2 r3 h1 h3 r4 h5 r5 r6 r7 r8 r9 h7 v0 v1 w2 h1 h2 r10 v3 v4 h2 g0 f5 h3 h4 r11 v6 v7 h4 g1 f8 h5 h6 v9 v10 h6 g2 f11 h7 g3 fn53)) [6, 0, 1, 2, 3, 4, 5, 7] rfl
    have hD := hD2.sub (ws' := (wd_f86bdc86 h0 r0 r1 r2 r3 h1 h3 r4 h5 r5 r6 r7 r8 r9 h7 v0 v1 w2 h1 h2 r10 v3 v4 h2 g0 f5 h3 h4 r11 v6 v7 h4 g1 f8 h5 h6 v9 v10 h6 g2 f11 h7 g3 fn53)) [6, 0, 1, 2, 3, 4, 5, 7] (by decide) rfl
    clear hP2 hD2
    obtain ⟨wa_ra52, wb_ra52⟩ := hwra52
    have wa_ra52 : -1 ≤ ra52.toInt := wa_ra52
    have wb_ra52 : ra52.toInt ≤ -1 := wb_ra52
    subst hQ
    have hP9 := hP.sub (ws' := (wd_f86bdc86 h0 r0 r1 r2 r3 h1 h3 r4 h5 r5 r6 r7 r8 r9 h7 v0 v1 w2 h1 h2 r10 v3 v4 h2 g0 f5 h3 h4 r11 v6 v7 h4 g1 f8 h5 h6 v9 v10 h6 g2 f11 h7 g3 fn53)) [0, 1, 2, 3, 4, 5, 6, 7] rfl
    have hD9 := hD.sub (ws' := (wd_f86bdc86 h0 r0 r1 r2 r3 h1 h3 r4 h5 r5 r6 r7 r8 r9 h7 v0 v1 w2 h1 h2 r10 v3 v4 h2 g0 f5 h3 h4 r11 v6 v7 h4 g1 f8 h5 h6 v9 v10 h6 g2 f11 h7 g3 fn53)) [0, 1, 2, 3, 4, 5, 6, 7] (by decide) rfl
    have hK9 := hK.sub (tys' := []) [] rfl
    exact W.iret (v := ra52) hx hb hr (fun t ht hW => ⟨⟨ra52, (), rfl, trivial, f8, v9, v10, f11, fn53, i_v9a, i_v9b, i_v10a, i_v10b, by rw [ht]; exact hP9, va_K.moved hW.alike hK9, hD9⟩, hS.F ht⟩) hS.2.2 dX11_move_16
def q_X10_take : List Cond := .code yX10_take cX10_take 2 (some .boolean) :: (([.code yX10_next cX10_next 1 (some .int), .fieldLink RX10 19 "LeftArguments$Tape" "at" "I", .fieldLink RX10 15 "LeftArguments$Tape" "used" "I", .fieldLink RX10 9 "LeftArguments$Tape" "bytes" "[I", .initialized RX10, .instanceMethod yX10_next, .selects RX10 yX10_next yX10_next, .methodLink RX10 37 yX10_next, .code yX10_wrongHere cX10_wrongHere 1 (some .boolean), .fieldLink RX10 22 "LeftArguments$Tape" "wrongAt" "I", .instanceMethod yX10_wrongHere, .selects RX10 yX10_wrongHere yX10_wrongHere, .methodLink RX10 41 yX10_wrongHere] : List Cond) ++ wsX100)
set_option maxRecDepth 20000 in
theorem g_X10_take_0 : GoodIn q_X10_take (wsV RX10 37 RX10 yX10_next q_X10_next) := goodIn_app (goodIn_r _ [8, 6, 7, 5] rfl (by decide +kernel)) (goodIn_ca (goodIn_r (.code yX10_next cX10_next 1 (some .int) :: [.fieldLink RX10 19 "LeftArguments$Tape" "at" "I", .fieldLink RX10 15 "LeftArguments$Tape" "used" "I", .fieldLink RX10 9 "LeftArguments$Tape" "bytes" "[I"]) [1, 2, 3, 4] rfl (by decide +kernel)) (goodIn_sub (fun _ h => List.mem_cons_of_mem _ (List.mem_append_right _ h)) gwX10))
set_option maxRecDepth 20000 in
theorem g_X10_take_1 : GoodIn q_X10_take (wsV RX10 41 RX10 yX10_wrongHere q_X10_wrongHere) := goodIn_app (goodIn_r _ [13, 11, 12, 5] rfl (by decide +kernel)) (goodIn_ca (goodIn_r (.code yX10_wrongHere cX10_wrongHere 1 (some .boolean) :: [.fieldLink RX10 19 "LeftArguments$Tape" "at" "I", .fieldLink RX10 22 "LeftArguments$Tape" "wrongAt" "I"]) [9, 2, 10] rfl (by decide +kernel)) (goodIn_sub (fun _ h => List.mem_cons_of_mem _ (List.mem_append_right _ h)) gwX10))
set_option maxHeartbeats 4000000 in
set_option maxRecDepth 100000 in
theorem k_X10_take (l : Launch) (dC : Nat → ClassId) (dI : Nat → Nat → Nat) (h0 : Nat) (h1 : Nat) (v0 : Int32) (v1 : Int32) (v2 : Int32) (v3 : Int32) (g0 : ClassId) (f4 : Nat → Int32) (i_v0 : 0 ≤ v0.toInt ∧ v0.toInt ≤ 240) (i_v1 : 0 ≤ v1.toInt ∧ v1.toInt ≤ 240) (ia_f4 : (∀ j, 0 ≤ (f4 j).toInt ∧ (f4 j).toInt ≤ 255)) (sz : Nat) : Met l yX10_take q_X10_take ({ frames := 1, cells := 0, slots := 0, locals := 20 }) (va_Pc [.ref h0, .int 121] (fun U => U.heap.size = sz ∧ va_P (dC, dI) vwCl (wd_82cdd16b h0 h1 v0 v1 v2 v3 h1 g0 f4) U.heap ∧ va_K (dC, dI) vwCl [(g0, .int)] U ∧ va_D (fun _ => True) (wd_82cdd16b h0 h1 v0 v1 v2 v3 h1 g0 f4))) (va_Qi (fun (r : Int32) (r9 : Int32) => r9 = r) (fun (r : Int32) (t : State) => (∃ (o_h0_2 : Int32), 1 ≤ o_h0_2.toInt ∧ o_h0_2.toInt ≤ 240 ∧ (1 ≤ r.toInt) ∧ (r.toInt ≤ 1) ∧ (v1.toInt ≤ o_h0_2.toInt) ∧ (pg_take f4 v0.toInt 121 v1.toInt = (true, o_h0_2.toInt)) ∧ va_P (dC, dI) vwCl (wd_82cdd16b h0 h1 v0 o_h0_2 v2 v3 h1 g0 f4) t.heap ∧ va_K (dC, dI) vwCl [] t ∧ va_D (va_A (wd_82cdd16b h0 h1 v0 v1 v2 v3 h1 g0 f4) sz) (wd_82cdd16b h0 h1 v0 o_h0_2 v2 v3 h1 g0 f4)) ∨ (∃ (o_h0_2 : Int32) (o_h0_3 : Int32), 0 ≤ o_h0_2.toInt ∧ o_h0_2.toInt ≤ 240 ∧ 0 ≤ o_h0_3.toInt ∧ o_h0_3.toInt ≤ 240 ∧ (0 ≤ r.toInt) ∧ (r.toInt ≤ 0) ∧ (v1.toInt ≤ o_h0_2.toInt) ∧ (pg_take f4 v0.toInt 121 v1.toInt = (false, o_h0_3.toInt)) ∧ va_P (dC, dI) vwCl (wd_82cdd16b h0 h1 v0 o_h0_2 o_h0_3 v3 h1 g0 f4) t.heap ∧ va_K (dC, dI) vwCl [] t ∧ va_D (va_A (wd_82cdd16b h0 h1 v0 v1 v2 v3 h1 g0 f4) sz) (wd_82cdd16b h0 h1 v0 o_h0_2 o_h0_3 v3 h1 g0 f4))) (va_A (wd_82cdd16b h0 h1 v0 v1 v2 v3 h1 g0 f4) sz)) 0 0 (va_A (wd_82cdd16b h0 h1 v0 v1 v2 v3 h1 g0 f4) sz) := by
  refine Met.ofW (cc := cX10_take) (maxL := 2) (ret := (some .boolean)) (by decide) rfl ?_
  intro p e s m args below meth c s₁ B hml hv
  obtain ⟨i_v0a, i_v0b⟩ := i_v0
  obtain ⟨i_v1a, i_v1b⟩ := i_v1
  obtain ⟨rfl, hsz, hP, hK, hD0⟩ := hv
  have hx := B.exec
  have hb := B.bytes
  have hr := B.returns
  have hts := atoms_spec (ws := q_X10_take) B.pre
  have hown : s.vm.findClass RX10 = some m.cls := findClass_of_methodNamed B.named
  have hlocks := B.notSynchronized
  subst hsz
  have hD := hD0.self (sz := s.heap.size)
  generalize hAe : va_A (wd_82cdd16b h0 h1 v0 v1 v2 v3 h1 g0 f4) s.heap.size = A at hD ⊢
  have hA : ∀ q : Nat, s.heap.size ≤ q → A q := fun q h => by rw [← hAe]; exact Or.inr h
  have hS : va_S A s.heap s.heap [] := va_S.rf
  generalize hQ : (MQ below _ _ s 0 0 A) = Q
  have hl := lv_entry ([.ref h0, .int 121]) (n := 2) (Nat.le_of_ble_eq_true rfl)
  rw [lg_entry_eq]
  generalize (lg_sl ([.ref h0, .int 121]) ++ List.replicate (2 - (lg_sl ([.ref h0, .int 121])).length) Slot.unset).toArray = ls at hl ⊢
  have hl : lv_has ls 2 [(0, .ref h0), (1, .int 121)] := hl
  obtain ⟨H, hH⟩ : ∃ H : Heap, H = s.heap := ⟨_, rfl⟩
  obtain ⟨locs, hlocs⟩ : ∃ y : List Loc, y = [] := ⟨_, rfl⟩
  have hS : va_S A s.heap H locs := by rw [hH, hlocs]; exact va_S.rf
  have hP : va_P (dC, dI) vwCl (wd_82cdd16b h0 h1 v0 v1 v2 v3 h1 g0 f4) H := by rw [hH]; exact hP
  rw [← hH, ← hlocs]
  refine lv_aload_n hx hb dX10_take_0 rfl (lv_at hl 0 rfl) ?_
  have hPc := hP.sub (ws' := (wd_82cdd16b h0 h1 v0 v1 v2 v3 h1 g0 f4)) [0, 1] rfl
  have hDc := hD.sub (ws' := (wd_82cdd16b h0 h1 v0 v1 v2 v3 h1 g0 f4)) [0, 1] (by decide) rfl
  have hKc := hK.sub (tys' := [(g0, .int)]) [0] rfl
  have hFc := va_free (wc := (wd_82cdd16b h0 h1 v0 v1 v2 v3 h1 g0 f4)) hD hS hA [0, 1] rfl
  refine va_calli (va_runV (As := []) (rest := []) ⟨hx, hb, hml, hown, hts⟩ (k_X10_next l dC dI h0 h1 v0 v1 v2 v3 g0 f4 ⟨i_v0a, i_v0b⟩ ⟨i_v1a, i_v1b⟩ ia_f4 H.size) (cwV 0 hts g_X10_take_0 rfl rfl rfl (by decide +kernel) ⟨Nat.le_of_ble_eq_true rfl, Nat.le_of_ble_eq_true rfl⟩) (pv_PV10 hPc hKc hDc (q0 := 0) rfl) rfl rfl hl.1 rfl (lv_room (Nat.le_of_ble_eq_true rfl)) dX10_take_1 ⟨Nat.le_of_ble_eq_true rfl, Nat.le_of_ble_eq_true rfl⟩) hS (fun q _ h => hFc q h) hFc (fun ra1 u t H1 locs ht hvm hwra1 hB hz1 hk1 hS => ?_)
  try rw [hwra1] at hB
  rcases hB with hB | hB
  · skip
    obtain ⟨x2, oa_x2, ob_x2, pt0_ra1, pt1_ra1, pt2_ra1, pt3_ra1, pt4_ra1, pt5_ra1, pt6_ra1, hP1, hK1, hD1⟩ := hB
    rw [ht] at hP1
    obtain ⟨hP2, hD2⟩ := va_join (wr := []) (w1 := (wd_82cdd16b h0 h1 v0 x2 v2 v3 h1 g0 f4)) hP hD [0, 1] [] rfl rfl (by decide) (by decide) hk1 hFc hP1 hD1
    clear hP hD hPc hDc hKc hFc hP1 hK1 hD1 hk1 hz1
    generalize H1 = H at hP2 hS ⊢
    have hP : va_P (dC, dI) vwCl (wd_82cdd16b h0 h1 v0 x2 v2 v3 h1 g0 f4) H := hP2
    have hD : va_D A (wd_82cdd16b h0 h1 v0 x2 v2 v3 h1 g0 f4) := hD2
    clear hP2 hD2
    obtain rfl : ra1 = ((-1) : Int32) := pv_cs (by decide) pt0_ra1 pt1_ra1
    refine lv_iload_n hx hb dX10_take_4 rfl (lv_at hl 1 rfl) ?_
    refine lv_icmp_eq (tgt := 13) hx hb dX10_take_5 (by decide) (fun c => absurd c (by decide)) (fun _ => ?_)
    refine lv_aload_n hx hb dX10_take_8 rfl (lv_at hl 0 rfl) ?_
    have hPc := hP.sub (ws' := (wd_09b0abee h0 h1 v0 x2 v2 v3)) [0] rfl
    have hDc := hD.sub (ws' := (wd_09b0abee h0 h1 v0 x2 v2 v3)) [0] (by decide) rfl
    have hKc := hK.sub (tys' := []) [] rfl
    have hFc := va_free (wc := (wd_09b0abee h0 h1 v0 x2 v2 v3)) hD hS hA [0] rfl
    refine va_calli (va_runV (As := []) (rest := []) ⟨hx, hb, hml, hown, hts⟩ (k_X10_wrongHere l dC dI h0 h1 v0 x2 v2 v3 ⟨i_v0a, i_v0b⟩ ⟨oa_x2, ob_x2⟩ H.size) (cwV 0 hts g_X10_take_1 rfl rfl rfl (by decide +kernel) ⟨Nat.le_of_ble_eq_true rfl, Nat.le_of_ble_eq_true rfl⟩) (pv_PV10 hPc hKc hDc (q0 := 0) rfl) rfl rfl hl.1 rfl (lv_room (Nat.le_of_ble_eq_true rfl)) dX10_take_9 ⟨Nat.le_of_ble_eq_true rfl, Nat.le_of_ble_eq_true rfl⟩) hS (fun q _ h => hFc q h) hFc (fun ra3 u t H1 locs ht hvm hwra3 hB hz1 hk1 hS => ?_)
    try rw [hwra3] at hB
    obtain ⟨x4, oa_x4, ob_x4, pt0_ra3, pt1_ra3, pt2_ra3, hP1, hK1, hD1⟩ := hB
    rw [ht] at hP1
    obtain ⟨hP2, hD2⟩ := va_join (wr := (wd_d0032b31 h1 g0 f4)) (w1 := (wd_09b0abee h0 h1 v0 x2 x4 v3)) hP hD [0] [1] rfl rfl (by decide) (by decide) hk1 hFc hP1 hD1
    clear hP hD hPc hDc hKc hFc hP1 hK1 hD1 hk1 hz1
    generalize H1 = H at hP2 hS ⊢
    have hP := hP2.sub (ws' := (wd_82cdd16b h0 h1 v0 x2 x4 v3 h1 g0 f4)) [1, 0] rfl
    have hD := hD2.sub (ws' := (wd_82cdd16b h0 h1 v0 x2 x4 v3 h1 g0 f4)) [1, 0] (by decide) rfl
    clear hP2 hD2
    obtain rfl : ra3 = (0 : Int32) := pv_cs (by decide) pt0_ra3 pt1_ra3
    subst hQ
    have hP9 := hP.sub (ws' := (wd_82cdd16b h0 h1 v0 x2 x4 v3 h1 g0 f4)) [0, 1] rfl
    have hD9 := hD.sub (ws' := (wd_82cdd16b h0 h1 v0 x2 x4 v3 h1 g0 f4)) [0, 1] (by decide) rfl
    have hK9 := hK.sub (tys' := []) [] rfl
    exact W.zret (v := 0) hx hb hr rfl (fun t ht hW => ⟨⟨0, 0, rfl, rfl, Or.inr (⟨x2, x4, oa_x2, ob_x2, oa_x4, ob_x4, by first | omega | decide, by first | omega | decide, by omega, by first | (apply pg_take.ok <;> first | assumption | omega) | (apply pg_take.no <;> first | assumption | omega), by rw [ht]; exact hP9, va_K.moved hW.alike hK9, hD9⟩)⟩, hS.F ht⟩) hS.2.2 dX10_take_12
  · skip
    obtain ⟨x5, oa_x5, ob_x5, pt0_ra1, pt1_ra1, pt2_ra1, pt3_ra1, pt4_ra1, pt5_ra1, pt6_ra1, hP1, hK1, hD1⟩ := hB
    rw [ht] at hP1
    obtain ⟨hP2, hD2⟩ := va_join (wr := []) (w1 := (wd_82cdd16b h0 h1 v0 x5 v2 v3 h1 g0 f4)) hP hD [0, 1] [] rfl rfl (by decide) (by decide) hk1 hFc hP1 hD1
    clear hP hD hPc hDc hKc hFc hP1 hK1 hD1 hk1 hz1
    generalize H1 = H at hP2 hS ⊢
    have hP : va_P (dC, dI) vwCl (wd_82cdd16b h0 h1 v0 x5 v2 v3 h1 g0 f4) H := hP2
    have hD : va_D A (wd_82cdd16b h0 h1 v0 x5 v2 v3 h1 g0 f4) := hD2
    clear hP2 hD2
    refine lv_iload_n hx hb dX10_take_4 rfl (lv_at hl 1 rfl) ?_
    refine lv_icmp_eq (tgt := 13) hx hb dX10_take_5 (by decide) (fun c6 => ?_) (fun c6 => ?_)
    · skip
      have fc6 : ra1.toInt = 121 := congrArg Int32.toInt c6
      refine lv_aload_n hx hb dX10_take_13 rfl (lv_at hl 0 rfl) ?_
      refine lv_dup hx hb dX10_take_14 rfl ?_
      refine va_get (D := (dC, dI)) (ci := 10) (v := .int x5) (C := RX10) (T := TX10) (N := 5) hx hb hts (fun _ h => List.mem_cons_of_mem _ (List.mem_append_right _ h)) hown hK hP 0 rfl rfl 2 (by decide) (hts (.fieldLink RX10 19 "LeftArguments$Tape" "at" "I") (List.mem_cons_of_mem _ (List.mem_append_left _ (List.mem_of_getElem? (i := 1) rfl)))) (fun _ h9 => h9) rfl dX10_take_15 ?_
      refine lv_iconst (v := 1) hx hb dX10_take_18 (by decide) ?_
      refine lv_iadd hx hb dX10_take_19 ?_
      refine lv_topi (fun t7 et7 => ?_)
      have gt7 : t7.toInt = x5.toInt + 1 := pv_add (a := x5.toInt) (b := 1) et7 rfl (by decide) (by omega) (by omega)
      refine va_put (D := (dC, dI)) (ci := 10) (v := .int t7) (ty := .int) (C := RX10) (T := TX10) (N := 5) hx hb hts (fun _ h => List.mem_cons_of_mem _ (List.mem_append_right _ h)) tyX10 tyX10_ok nmX10 hown hK hP hD hS 0 rfl rfl 2 (by decide) (hts (.fieldLink RX10 19 "LeftArguments$Tape" "at" "I") (List.mem_cons_of_mem _ (List.mem_append_left _ (List.mem_of_getElem? (i := 1) rfl)))) (fun _ h9 => h9) rfl (by decide +kernel) rfl rfl (Nat.le_of_ble_eq_true rfl) dX10_take_20 (fun H locs hP hD hS => ?_)
      have hP : va_P (dC, dI) vwCl (wd_82cdd16b h0 h1 v0 t7 v2 v3 h1 g0 f4) H := hP
      have hD : va_D A (wd_82cdd16b h0 h1 v0 t7 v2 v3 h1 g0 f4) := hD
      refine lv_iconst (v := 1) hx hb dX10_take_23 (by decide) ?_
      subst hQ
      have hP9 := hP.sub (ws' := (wd_82cdd16b h0 h1 v0 t7 v2 v3 h1 g0 f4)) [0, 1] rfl
      have hD9 := hD.sub (ws' := (wd_82cdd16b h0 h1 v0 t7 v2 v3 h1 g0 f4)) [0, 1] (by decide) rfl
      have hK9 := hK.sub (tys' := []) [] rfl
      exact W.zret (v := 1) hx hb hr rfl (fun t ht hW => ⟨⟨1, 1, rfl, rfl, Or.inl ⟨t7, by first | omega | decide, by first | omega | decide, by first | omega | decide, by first | omega | decide, by omega, by first | (apply pg_take.ok <;> first | assumption | omega) | (apply pg_take.no <;> first | assumption | omega), by rw [ht]; exact hP9, va_K.moved hW.alike hK9, hD9⟩⟩, hS.F ht⟩) hS.2.2 dX10_take_24
    · skip
      have fc6 : ¬ (ra1.toInt = 121) := fun h9 => c6 (Int32.toInt_inj.mp h9)
      refine lv_aload_n hx hb dX10_take_8 rfl (lv_at hl 0 rfl) ?_
      have hPc := hP.sub (ws' := (wd_09b0abee h0 h1 v0 x5 v2 v3)) [0] rfl
      have hDc := hD.sub (ws' := (wd_09b0abee h0 h1 v0 x5 v2 v3)) [0] (by decide) rfl
      have hKc := hK.sub (tys' := []) [] rfl
      have hFc := va_free (wc := (wd_09b0abee h0 h1 v0 x5 v2 v3)) hD hS hA [0] rfl
      refine va_calli (va_runV (As := []) (rest := []) ⟨hx, hb, hml, hown, hts⟩ (k_X10_wrongHere l dC dI h0 h1 v0 x5 v2 v3 ⟨i_v0a, i_v0b⟩ ⟨oa_x5, by first | omega | decide⟩ H.size) (cwV 0 hts g_X10_take_1 rfl rfl rfl (by decide +kernel) ⟨Nat.le_of_ble_eq_true rfl, Nat.le_of_ble_eq_true rfl⟩) (pv_PV10 hPc hKc hDc (q0 := 0) rfl) rfl rfl hl.1 rfl (lv_room (Nat.le_of_ble_eq_true rfl)) dX10_take_9 ⟨Nat.le_of_ble_eq_true rfl, Nat.le_of_ble_eq_true rfl⟩) hS (fun q _ h => hFc q h) hFc (fun ra8 u t H1 locs ht hvm hwra8 hB hz1 hk1 hS => ?_)
      try rw [hwra8] at hB
      obtain ⟨x9, oa_x9, ob_x9, pt0_ra8, pt1_ra8, pt2_ra8, hP1, hK1, hD1⟩ := hB
      rw [ht] at hP1
      obtain ⟨hP2, hD2⟩ := va_join (wr := (wd_d0032b31 h1 g0 f4)) (w1 := (wd_09b0abee h0 h1 v0 x5 x9 v3)) hP hD [0] [1] rfl rfl (by decide) (by decide) hk1 hFc hP1 hD1
      clear hP hD hPc hDc hKc hFc hP1 hK1 hD1 hk1 hz1
      generalize H1 = H at hP2 hS ⊢
      have hP := hP2.sub (ws' := (wd_82cdd16b h0 h1 v0 x5 x9 v3 h1 g0 f4)) [1, 0] rfl
      have hD := hD2.sub (ws' := (wd_82cdd16b h0 h1 v0 x5 x9 v3 h1 g0 f4)) [1, 0] (by decide) rfl
      clear hP2 hD2
      obtain rfl : ra8 = (0 : Int32) := pv_cs (by decide) pt0_ra8 pt1_ra8
      subst hQ
      have hP9 := hP.sub (ws' := (wd_82cdd16b h0 h1 v0 x5 x9 v3 h1 g0 f4)) [0, 1] rfl
      have hD9 := hD.sub (ws' := (wd_82cdd16b h0 h1 v0 x5 x9 v3 h1 g0 f4)) [0, 1] (by decide) rfl
      have hK9 := hK.sub (tys' := []) [] rfl
      exact W.zret (v := 0) hx hb hr rfl (fun t ht hW => ⟨⟨0, 0, rfl, rfl, Or.inr (⟨x5, x9, oa_x5, by first | omega | decide, oa_x9, ob_x9, by first | omega | decide, by first | omega | decide, by omega, by first | (apply pg_take.ok <;> first | assumption | omega) | (apply pg_take.no <;> first | assumption | omega), by rw [ht]; exact hP9, va_K.moved hW.alike hK9, hD9⟩)⟩, hS.F ht⟩) hS.2.2 dX10_take_12
def q_X10_take_1 : List Cond := .code yX10_take cX10_take 2 (some .boolean) :: (([.code yX10_next cX10_next 1 (some .int), .fieldLink RX10 19 "LeftArguments$Tape" "at" "I", .fieldLink RX10 15 "LeftArguments$Tape" "used" "I", .fieldLink RX10 9 "LeftArguments$Tape" "bytes" "[I", .initialized RX10, .instanceMethod yX10_next, .selects RX10 yX10_next yX10_next, .methodLink RX10 37 yX10_next, .code yX10_wrongHere cX10_wrongHere 1 (some .boolean), .fieldLink RX10 22 "LeftArguments$Tape" "wrongAt" "I", .instanceMethod yX10_wrongHere, .selects RX10 yX10_wrongHere yX10_wrongHere, .methodLink RX10 41 yX10_wrongHere] : List Cond) ++ wsX100)
set_option maxRecDepth 20000 in
theorem g_X10_take_1_0 : GoodIn q_X10_take_1 (wsV RX10 37 RX10 yX10_next q_X10_next) := goodIn_app (goodIn_r _ [8, 6, 7, 5] rfl (by decide +kernel)) (goodIn_ca (goodIn_r (.code yX10_next cX10_next 1 (some .int) :: [.fieldLink RX10 19 "LeftArguments$Tape" "at" "I", .fieldLink RX10 15 "LeftArguments$Tape" "used" "I", .fieldLink RX10 9 "LeftArguments$Tape" "bytes" "[I"]) [1, 2, 3, 4] rfl (by decide +kernel)) (goodIn_sub (fun _ h => List.mem_cons_of_mem _ (List.mem_append_right _ h)) gwX10))
set_option maxRecDepth 20000 in
theorem g_X10_take_1_1 : GoodIn q_X10_take_1 (wsV RX10 41 RX10 yX10_wrongHere q_X10_wrongHere) := goodIn_app (goodIn_r _ [13, 11, 12, 5] rfl (by decide +kernel)) (goodIn_ca (goodIn_r (.code yX10_wrongHere cX10_wrongHere 1 (some .boolean) :: [.fieldLink RX10 19 "LeftArguments$Tape" "at" "I", .fieldLink RX10 22 "LeftArguments$Tape" "wrongAt" "I"]) [9, 2, 10] rfl (by decide +kernel)) (goodIn_sub (fun _ h => List.mem_cons_of_mem _ (List.mem_append_right _ h)) gwX10))
set_option maxHeartbeats 4000000 in
set_option maxRecDepth 100000 in
theorem k_X10_take_1 (l : Launch) (dC : Nat → ClassId) (dI : Nat → Nat → Nat) (h0 : Nat) (h1 : Nat) (v0 : Int32) (v1 : Int32) (v2 : Int32) (v3 : Int32) (g0 : ClassId) (f4 : Nat → Int32) (i_v0 : 0 ≤ v0.toInt ∧ v0.toInt ≤ 240) (i_v1 : 0 ≤ v1.toInt ∧ v1.toInt ≤ 240) (ia_f4 : (∀ j, 0 ≤ (f4 j).toInt ∧ (f4 j).toInt ≤ 255)) (sz : Nat) : Met l yX10_take q_X10_take_1 ({ frames := 1, cells := 0, slots := 0, locals := 20 }) (va_Pc [.ref h0, .int 58] (fun U => U.heap.size = sz ∧ va_P (dC, dI) vwCl (wd_82cdd16b h0 h1 v0 v1 v2 v3 h1 g0 f4) U.heap ∧ va_K (dC, dI) vwCl [(g0, .int)] U ∧ va_D (fun _ => True) (wd_82cdd16b h0 h1 v0 v1 v2 v3 h1 g0 f4))) (va_Qi (fun (r : Int32) (r9 : Int32) => r9 = r) (fun (r : Int32) (t : State) => (∃ (o_h0_2 : Int32), 1 ≤ o_h0_2.toInt ∧ o_h0_2.toInt ≤ 240 ∧ (1 ≤ r.toInt) ∧ (r.toInt ≤ 1) ∧ (v1.toInt ≤ o_h0_2.toInt) ∧ (pg_take f4 v0.toInt 58 v1.toInt = (true, o_h0_2.toInt)) ∧ va_P (dC, dI) vwCl (wd_82cdd16b h0 h1 v0 o_h0_2 v2 v3 h1 g0 f4) t.heap ∧ va_K (dC, dI) vwCl [] t ∧ va_D (va_A (wd_82cdd16b h0 h1 v0 v1 v2 v3 h1 g0 f4) sz) (wd_82cdd16b h0 h1 v0 o_h0_2 v2 v3 h1 g0 f4)) ∨ (∃ (o_h0_2 : Int32) (o_h0_3 : Int32), 0 ≤ o_h0_2.toInt ∧ o_h0_2.toInt ≤ 240 ∧ 0 ≤ o_h0_3.toInt ∧ o_h0_3.toInt ≤ 240 ∧ (0 ≤ r.toInt) ∧ (r.toInt ≤ 0) ∧ (v1.toInt ≤ o_h0_2.toInt) ∧ (pg_take f4 v0.toInt 58 v1.toInt = (false, o_h0_3.toInt)) ∧ va_P (dC, dI) vwCl (wd_82cdd16b h0 h1 v0 o_h0_2 o_h0_3 v3 h1 g0 f4) t.heap ∧ va_K (dC, dI) vwCl [] t ∧ va_D (va_A (wd_82cdd16b h0 h1 v0 v1 v2 v3 h1 g0 f4) sz) (wd_82cdd16b h0 h1 v0 o_h0_2 o_h0_3 v3 h1 g0 f4))) (va_A (wd_82cdd16b h0 h1 v0 v1 v2 v3 h1 g0 f4) sz)) 0 0 (va_A (wd_82cdd16b h0 h1 v0 v1 v2 v3 h1 g0 f4) sz) := by
  refine Met.ofW (cc := cX10_take) (maxL := 2) (ret := (some .boolean)) (by decide) rfl ?_
  intro p e s m args below meth c s₁ B hml hv
  obtain ⟨i_v0a, i_v0b⟩ := i_v0
  obtain ⟨i_v1a, i_v1b⟩ := i_v1
  obtain ⟨rfl, hsz, hP, hK, hD0⟩ := hv
  have hx := B.exec
  have hb := B.bytes
  have hr := B.returns
  have hts := atoms_spec (ws := q_X10_take_1) B.pre
  have hown : s.vm.findClass RX10 = some m.cls := findClass_of_methodNamed B.named
  have hlocks := B.notSynchronized
  subst hsz
  have hD := hD0.self (sz := s.heap.size)
  generalize hAe : va_A (wd_82cdd16b h0 h1 v0 v1 v2 v3 h1 g0 f4) s.heap.size = A at hD ⊢
  have hA : ∀ q : Nat, s.heap.size ≤ q → A q := fun q h => by rw [← hAe]; exact Or.inr h
  have hS : va_S A s.heap s.heap [] := va_S.rf
  generalize hQ : (MQ below _ _ s 0 0 A) = Q
  have hl := lv_entry ([.ref h0, .int 58]) (n := 2) (Nat.le_of_ble_eq_true rfl)
  rw [lg_entry_eq]
  generalize (lg_sl ([.ref h0, .int 58]) ++ List.replicate (2 - (lg_sl ([.ref h0, .int 58])).length) Slot.unset).toArray = ls at hl ⊢
  have hl : lv_has ls 2 [(0, .ref h0), (1, .int 58)] := hl
  obtain ⟨H, hH⟩ : ∃ H : Heap, H = s.heap := ⟨_, rfl⟩
  obtain ⟨locs, hlocs⟩ : ∃ y : List Loc, y = [] := ⟨_, rfl⟩
  have hS : va_S A s.heap H locs := by rw [hH, hlocs]; exact va_S.rf
  have hP : va_P (dC, dI) vwCl (wd_82cdd16b h0 h1 v0 v1 v2 v3 h1 g0 f4) H := by rw [hH]; exact hP
  rw [← hH, ← hlocs]
  refine lv_aload_n hx hb dX10_take_0 rfl (lv_at hl 0 rfl) ?_
  have hPc := hP.sub (ws' := (wd_82cdd16b h0 h1 v0 v1 v2 v3 h1 g0 f4)) [0, 1] rfl
  have hDc := hD.sub (ws' := (wd_82cdd16b h0 h1 v0 v1 v2 v3 h1 g0 f4)) [0, 1] (by decide) rfl
  have hKc := hK.sub (tys' := [(g0, .int)]) [0] rfl
  have hFc := va_free (wc := (wd_82cdd16b h0 h1 v0 v1 v2 v3 h1 g0 f4)) hD hS hA [0, 1] rfl
  refine va_calli (va_runV (As := []) (rest := []) ⟨hx, hb, hml, hown, hts⟩ (k_X10_next l dC dI h0 h1 v0 v1 v2 v3 g0 f4 ⟨i_v0a, i_v0b⟩ ⟨i_v1a, i_v1b⟩ ia_f4 H.size) (cwV 0 hts g_X10_take_1_0 rfl rfl rfl (by decide +kernel) ⟨Nat.le_of_ble_eq_true rfl, Nat.le_of_ble_eq_true rfl⟩) (pv_PV10 hPc hKc hDc (q0 := 0) rfl) rfl rfl hl.1 rfl (lv_room (Nat.le_of_ble_eq_true rfl)) dX10_take_1 ⟨Nat.le_of_ble_eq_true rfl, Nat.le_of_ble_eq_true rfl⟩) hS (fun q _ h => hFc q h) hFc (fun ra1 u t H1 locs ht hvm hwra1 hB hz1 hk1 hS => ?_)
  try rw [hwra1] at hB
  rcases hB with hB | hB
  · skip
    obtain ⟨x2, oa_x2, ob_x2, pt0_ra1, pt1_ra1, pt2_ra1, pt3_ra1, pt4_ra1, pt5_ra1, pt6_ra1, hP1, hK1, hD1⟩ := hB
    rw [ht] at hP1
    obtain ⟨hP2, hD2⟩ := va_join (wr := []) (w1 := (wd_82cdd16b h0 h1 v0 x2 v2 v3 h1 g0 f4)) hP hD [0, 1] [] rfl rfl (by decide) (by decide) hk1 hFc hP1 hD1
    clear hP hD hPc hDc hKc hFc hP1 hK1 hD1 hk1 hz1
    generalize H1 = H at hP2 hS ⊢
    have hP : va_P (dC, dI) vwCl (wd_82cdd16b h0 h1 v0 x2 v2 v3 h1 g0 f4) H := hP2
    have hD : va_D A (wd_82cdd16b h0 h1 v0 x2 v2 v3 h1 g0 f4) := hD2
    clear hP2 hD2
    obtain rfl : ra1 = ((-1) : Int32) := pv_cs (by decide) pt0_ra1 pt1_ra1
    refine lv_iload_n hx hb dX10_take_4 rfl (lv_at hl 1 rfl) ?_
    refine lv_icmp_eq (tgt := 13) hx hb dX10_take_5 (by decide) (fun c => absurd c (by decide)) (fun _ => ?_)
    refine lv_aload_n hx hb dX10_take_8 rfl (lv_at hl 0 rfl) ?_
    have hPc := hP.sub (ws' := (wd_09b0abee h0 h1 v0 x2 v2 v3)) [0] rfl
    have hDc := hD.sub (ws' := (wd_09b0abee h0 h1 v0 x2 v2 v3)) [0] (by decide) rfl
    have hKc := hK.sub (tys' := []) [] rfl
    have hFc := va_free (wc := (wd_09b0abee h0 h1 v0 x2 v2 v3)) hD hS hA [0] rfl
    refine va_calli (va_runV (As := []) (rest := []) ⟨hx, hb, hml, hown, hts⟩ (k_X10_wrongHere l dC dI h0 h1 v0 x2 v2 v3 ⟨i_v0a, i_v0b⟩ ⟨oa_x2, ob_x2⟩ H.size) (cwV 0 hts g_X10_take_1_1 rfl rfl rfl (by decide +kernel) ⟨Nat.le_of_ble_eq_true rfl, Nat.le_of_ble_eq_true rfl⟩) (pv_PV10 hPc hKc hDc (q0 := 0) rfl) rfl rfl hl.1 rfl (lv_room (Nat.le_of_ble_eq_true rfl)) dX10_take_9 ⟨Nat.le_of_ble_eq_true rfl, Nat.le_of_ble_eq_true rfl⟩) hS (fun q _ h => hFc q h) hFc (fun ra3 u t H1 locs ht hvm hwra3 hB hz1 hk1 hS => ?_)
    try rw [hwra3] at hB
    obtain ⟨x4, oa_x4, ob_x4, pt0_ra3, pt1_ra3, pt2_ra3, hP1, hK1, hD1⟩ := hB
    rw [ht] at hP1
    obtain ⟨hP2, hD2⟩ := va_join (wr := (wd_d0032b31 h1 g0 f4)) (w1 := (wd_09b0abee h0 h1 v0 x2 x4 v3)) hP hD [0] [1] rfl rfl (by decide) (by decide) hk1 hFc hP1 hD1
    clear hP hD hPc hDc hKc hFc hP1 hK1 hD1 hk1 hz1
    generalize H1 = H at hP2 hS ⊢
    have hP := hP2.sub (ws' := (wd_82cdd16b h0 h1 v0 x2 x4 v3 h1 g0 f4)) [1, 0] rfl
    have hD := hD2.sub (ws' := (wd_82cdd16b h0 h1 v0 x2 x4 v3 h1 g0 f4)) [1, 0] (by decide) rfl
    clear hP2 hD2
    obtain rfl : ra3 = (0 : Int32) := pv_cs (by decide) pt0_ra3 pt1_ra3
    subst hQ
    have hP9 := hP.sub (ws' := (wd_82cdd16b h0 h1 v0 x2 x4 v3 h1 g0 f4)) [0, 1] rfl
    have hD9 := hD.sub (ws' := (wd_82cdd16b h0 h1 v0 x2 x4 v3 h1 g0 f4)) [0, 1] (by decide) rfl
    have hK9 := hK.sub (tys' := []) [] rfl
    exact W.zret (v := 0) hx hb hr rfl (fun t ht hW => ⟨⟨0, 0, rfl, rfl, Or.inr (⟨x2, x4, oa_x2, ob_x2, oa_x4, ob_x4, by first | omega | decide, by first | omega | decide, by omega, by first | (apply pg_take.ok <;> first | assumption | omega) | (apply pg_take.no <;> first | assumption | omega), by rw [ht]; exact hP9, va_K.moved hW.alike hK9, hD9⟩)⟩, hS.F ht⟩) hS.2.2 dX10_take_12
  · skip
    obtain ⟨x5, oa_x5, ob_x5, pt0_ra1, pt1_ra1, pt2_ra1, pt3_ra1, pt4_ra1, pt5_ra1, pt6_ra1, hP1, hK1, hD1⟩ := hB
    rw [ht] at hP1
    obtain ⟨hP2, hD2⟩ := va_join (wr := []) (w1 := (wd_82cdd16b h0 h1 v0 x5 v2 v3 h1 g0 f4)) hP hD [0, 1] [] rfl rfl (by decide) (by decide) hk1 hFc hP1 hD1
    clear hP hD hPc hDc hKc hFc hP1 hK1 hD1 hk1 hz1
    generalize H1 = H at hP2 hS ⊢
    have hP : va_P (dC, dI) vwCl (wd_82cdd16b h0 h1 v0 x5 v2 v3 h1 g0 f4) H := hP2
    have hD : va_D A (wd_82cdd16b h0 h1 v0 x5 v2 v3 h1 g0 f4) := hD2
    clear hP2 hD2
    refine lv_iload_n hx hb dX10_take_4 rfl (lv_at hl 1 rfl) ?_
    refine lv_icmp_eq (tgt := 13) hx hb dX10_take_5 (by decide) (fun c6 => ?_) (fun c6 => ?_)
    · skip
      have fc6 : ra1.toInt = 58 := congrArg Int32.toInt c6
      refine lv_aload_n hx hb dX10_take_13 rfl (lv_at hl 0 rfl) ?_
      refine lv_dup hx hb dX10_take_14 rfl ?_
      refine va_get (D := (dC, dI)) (ci := 10) (v := .int x5) (C := RX10) (T := TX10) (N := 5) hx hb hts (fun _ h => List.mem_cons_of_mem _ (List.mem_append_right _ h)) hown hK hP 0 rfl rfl 2 (by decide) (hts (.fieldLink RX10 19 "LeftArguments$Tape" "at" "I") (List.mem_cons_of_mem _ (List.mem_append_left _ (List.mem_of_getElem? (i := 1) rfl)))) (fun _ h9 => h9) rfl dX10_take_15 ?_
      refine lv_iconst (v := 1) hx hb dX10_take_18 (by decide) ?_
      refine lv_iadd hx hb dX10_take_19 ?_
      refine lv_topi (fun t7 et7 => ?_)
      have gt7 : t7.toInt = x5.toInt + 1 := pv_add (a := x5.toInt) (b := 1) et7 rfl (by decide) (by omega) (by omega)
      refine va_put (D := (dC, dI)) (ci := 10) (v := .int t7) (ty := .int) (C := RX10) (T := TX10) (N := 5) hx hb hts (fun _ h => List.mem_cons_of_mem _ (List.mem_append_right _ h)) tyX10 tyX10_ok nmX10 hown hK hP hD hS 0 rfl rfl 2 (by decide) (hts (.fieldLink RX10 19 "LeftArguments$Tape" "at" "I") (List.mem_cons_of_mem _ (List.mem_append_left _ (List.mem_of_getElem? (i := 1) rfl)))) (fun _ h9 => h9) rfl (by decide +kernel) rfl rfl (Nat.le_of_ble_eq_true rfl) dX10_take_20 (fun H locs hP hD hS => ?_)
      have hP : va_P (dC, dI) vwCl (wd_82cdd16b h0 h1 v0 t7 v2 v3 h1 g0 f4) H := hP
      have hD : va_D A (wd_82cdd16b h0 h1 v0 t7 v2 v3 h1 g0 f4) := hD
      refine lv_iconst (v := 1) hx hb dX10_take_23 (by decide) ?_
      subst hQ
      have hP9 := hP.sub (ws' := (wd_82cdd16b h0 h1 v0 t7 v2 v3 h1 g0 f4)) [0, 1] rfl
      have hD9 := hD.sub (ws' := (wd_82cdd16b h0 h1 v0 t7 v2 v3 h1 g0 f4)) [0, 1] (by decide) rfl
      have hK9 := hK.sub (tys' := []) [] rfl
      exact W.zret (v := 1) hx hb hr rfl (fun t ht hW => ⟨⟨1, 1, rfl, rfl, Or.inl ⟨t7, by first | omega | decide, by first | omega | decide, by first | omega | decide, by first | omega | decide, by omega, by first | (apply pg_take.ok <;> first | assumption | omega) | (apply pg_take.no <;> first | assumption | omega), by rw [ht]; exact hP9, va_K.moved hW.alike hK9, hD9⟩⟩, hS.F ht⟩) hS.2.2 dX10_take_24
    · skip
      have fc6 : ¬ (ra1.toInt = 58) := fun h9 => c6 (Int32.toInt_inj.mp h9)
      refine lv_aload_n hx hb dX10_take_8 rfl (lv_at hl 0 rfl) ?_
      have hPc := hP.sub (ws' := (wd_09b0abee h0 h1 v0 x5 v2 v3)) [0] rfl
      have hDc := hD.sub (ws' := (wd_09b0abee h0 h1 v0 x5 v2 v3)) [0] (by decide) rfl
      have hKc := hK.sub (tys' := []) [] rfl
      have hFc := va_free (wc := (wd_09b0abee h0 h1 v0 x5 v2 v3)) hD hS hA [0] rfl
      refine va_calli (va_runV (As := []) (rest := []) ⟨hx, hb, hml, hown, hts⟩ (k_X10_wrongHere l dC dI h0 h1 v0 x5 v2 v3 ⟨i_v0a, i_v0b⟩ ⟨oa_x5, by first | omega | decide⟩ H.size) (cwV 0 hts g_X10_take_1_1 rfl rfl rfl (by decide +kernel) ⟨Nat.le_of_ble_eq_true rfl, Nat.le_of_ble_eq_true rfl⟩) (pv_PV10 hPc hKc hDc (q0 := 0) rfl) rfl rfl hl.1 rfl (lv_room (Nat.le_of_ble_eq_true rfl)) dX10_take_9 ⟨Nat.le_of_ble_eq_true rfl, Nat.le_of_ble_eq_true rfl⟩) hS (fun q _ h => hFc q h) hFc (fun ra8 u t H1 locs ht hvm hwra8 hB hz1 hk1 hS => ?_)
      try rw [hwra8] at hB
      obtain ⟨x9, oa_x9, ob_x9, pt0_ra8, pt1_ra8, pt2_ra8, hP1, hK1, hD1⟩ := hB
      rw [ht] at hP1
      obtain ⟨hP2, hD2⟩ := va_join (wr := (wd_d0032b31 h1 g0 f4)) (w1 := (wd_09b0abee h0 h1 v0 x5 x9 v3)) hP hD [0] [1] rfl rfl (by decide) (by decide) hk1 hFc hP1 hD1
      clear hP hD hPc hDc hKc hFc hP1 hK1 hD1 hk1 hz1
      generalize H1 = H at hP2 hS ⊢
      have hP := hP2.sub (ws' := (wd_82cdd16b h0 h1 v0 x5 x9 v3 h1 g0 f4)) [1, 0] rfl
      have hD := hD2.sub (ws' := (wd_82cdd16b h0 h1 v0 x5 x9 v3 h1 g0 f4)) [1, 0] (by decide) rfl
      clear hP2 hD2
      obtain rfl : ra8 = (0 : Int32) := pv_cs (by decide) pt0_ra8 pt1_ra8
      subst hQ
      have hP9 := hP.sub (ws' := (wd_82cdd16b h0 h1 v0 x5 x9 v3 h1 g0 f4)) [0, 1] rfl
      have hD9 := hD.sub (ws' := (wd_82cdd16b h0 h1 v0 x5 x9 v3 h1 g0 f4)) [0, 1] (by decide) rfl
      have hK9 := hK.sub (tys' := []) [] rfl
      exact W.zret (v := 0) hx hb hr rfl (fun t ht hW => ⟨⟨0, 0, rfl, rfl, Or.inr (⟨x5, x9, oa_x5, by first | omega | decide, oa_x9, ob_x9, by first | omega | decide, by first | omega | decide, by omega, by first | (apply pg_take.ok <;> first | assumption | omega) | (apply pg_take.no <;> first | assumption | omega), by rw [ht]; exact hP9, va_K.moved hW.alike hK9, hD9⟩)⟩, hS.F ht⟩) hS.2.2 dX10_take_12
def q_J0_isLatin1_aae02 : List Cond := .code yJ0_isLatin1_aae02 cJ0_isLatin1_aae02 1 (some .boolean) :: (([.fieldLink RJ0 38 "java/lang/String" "COMPACT_STRINGS" "Z", .fieldLink RJ0 15 "java/lang/String" "coder" "B"] : List Cond))
set_option maxHeartbeats 4000000 in
set_option maxRecDepth 100000 in
theorem k_J0_isLatin1_aae02 (l : Launch) (dC : Nat → ClassId) (dI : Nat → Nat → Nat) (adK : Nat → Nat) (adV : Nat → Nat) (sz : Nat) : Met l yJ0_isLatin1_aae02 q_J0_isLatin1_aae02 ({ frames := 0, cells := 0, slots := 0, locals := 0 }) (va_Pc [.ref (adK 2)] (fun U => U.heap.size = sz ∧ va_P (dC, dI) vwCl [] U.heap ∧ va_K (dC, dI) vwCl [] U ∧ va_D (fun _ => True) [] ∧ va_Z "java/lang/String" "COMPACT_STRINGS" "Z" (.int 1) (va_A [] sz) U U.heap ∧ vk_S 3 pv_len3 pv_byt3 adK adV (va_A [] sz) U U.heap)) (va_Qi (fun (r : Int32) (_ : Unit) => 1 ≤ r.toInt ∧ r.toInt ≤ 1) (fun (_ : Unit) (t : State) => va_P (dC, dI) vwCl [] t.heap ∧ va_K (dC, dI) vwCl [] t ∧ va_D (va_A [] sz) []) (va_A [] sz)) 0 0 (va_A [] sz) := by
  refine pv_ofWF (cc := cJ0_isLatin1_aae02) (maxL := 1) (ret := (some .boolean)) (by decide +kernel) rfl ?_
  intro p e s m args below meth c s₁ B hml hv
  obtain ⟨rfl, hsz, hP, hK, hD0, h_st_CS, h_st_S⟩ := hv
  have hx := B.exec
  have hb := B.bytes
  have hr := B.returns
  have hts := atoms_spec (ws := q_J0_isLatin1_aae02) B.pre
  have hown : s.vm.findClass RJ0 = some m.cls := findClass_of_methodNamed B.named
  have hlocks := B.notSynchronized
  subst hsz
  have hD := hD0.self (sz := s.heap.size)
  generalize hAe : va_A [] s.heap.size = A at hD h_st_CS h_st_S ⊢
  have hA : ∀ q : Nat, s.heap.size ≤ q → A q := fun q h => by rw [← hAe]; exact Or.inr h
  have hS : va_S A s.heap s.heap [] := va_S.rf
  generalize hQ : (MQ below _ _ s 0 0 A) = Q
  have hl := lv_entry ([.ref (adK 2)]) (n := 1) (Nat.le_of_ble_eq_true rfl)
  rw [lg_entry_eq]
  generalize (lg_sl ([.ref (adK 2)]) ++ List.replicate (1 - (lg_sl ([.ref (adK 2)])).length) Slot.unset).toArray = ls at hl ⊢
  have hl : lv_has ls 1 [(0, .ref (adK 2))] := hl
  obtain ⟨H, hH⟩ : ∃ H : Heap, H = s.heap := ⟨_, rfl⟩
  obtain ⟨locs, hlocs⟩ : ∃ y : List Loc, y = [] := ⟨_, rfl⟩
  have hS : va_S A s.heap H locs := by rw [hH, hlocs]; exact va_S.rf
  have hP : va_P (dC, dI) vwCl [] H := by rw [hH]; exact hP
  rw [← hH, ← hlocs]
  refine va_gets hx hb h_st_CS hS hown (hts (.fieldLink RJ0 38 "java/lang/String" "COMPACT_STRINGS" "Z") (List.mem_cons_of_mem _ (List.mem_of_getElem? (i := 0) rfl))) (fun _ h9 => h9) dJ0_isLatin1_aae02_0 ?_
  refine lv_if_eq (tgt := 17) hx hb dJ0_isLatin1_aae02_3 (by decide) (fun c => absurd c (by decide)) (fun _ => ?_)
  refine lv_aload_n hx hb dJ0_isLatin1_aae02_6 rfl (lv_at hl 0 rfl) ?_
  refine vk_getf hx hb (h_st_S.1 2 (by decide)).2.1 hS hown (hts (.fieldLink RJ0 15 "java/lang/String" "coder" "B") (List.mem_cons_of_mem _ (List.mem_of_getElem? (i := 1) rfl))) (fun _ h9 => h9) dJ0_isLatin1_aae02_7 ?_
  refine lv_if_ne (tgt := 17) hx hb dJ0_isLatin1_aae02_10 (by decide) (fun c => absurd (by decide) c) (fun _ => ?_)
  refine lv_iconst (v := 1) hx hb dJ0_isLatin1_aae02_13 (by decide) ?_
  refine lv_goto (tgt := 18) hx hb dJ0_isLatin1_aae02_14 (by decide) ?_
  subst hQ
  have hP9 := hP.sub (ws' := []) [] rfl
  have hD9 := hD.sub (ws' := []) [] (by decide) rfl
  have hK9 := hK.sub (tys' := []) [] rfl
  exact W.zret (v := 1) hx hb hr rfl (fun t ht hW => ⟨⟨1, (), rfl, ⟨by first | omega | decide, by first | omega | decide⟩, by rw [ht]; exact hP9, va_K.moved hW.alike hK9, hD9⟩, hS.F ht⟩) hS.2.2 dJ0_isLatin1_aae02_18
def q_J0_coder_7d493 : List Cond := .code yJ0_coder_7d493 cJ0_coder_7d493 1 (some .byte) :: (([.fieldLink RJ0 38 "java/lang/String" "COMPACT_STRINGS" "Z", .fieldLink RJ0 15 "java/lang/String" "coder" "B"] : List Cond))
set_option maxHeartbeats 4000000 in
set_option maxRecDepth 100000 in
theorem k_J0_coder_7d493 (l : Launch) (dC : Nat → ClassId) (dI : Nat → Nat → Nat) (adK : Nat → Nat) (adV : Nat → Nat) (sz : Nat) : Met l yJ0_coder_7d493 q_J0_coder_7d493 ({ frames := 0, cells := 0, slots := 0, locals := 0 }) (va_Pc [.ref (adK 2)] (fun U => U.heap.size = sz ∧ va_P (dC, dI) vwCl [] U.heap ∧ va_K (dC, dI) vwCl [] U ∧ va_D (fun _ => True) [] ∧ va_Z "java/lang/String" "COMPACT_STRINGS" "Z" (.int 1) (va_A [] sz) U U.heap ∧ vk_S 3 pv_len3 pv_byt3 adK adV (va_A [] sz) U U.heap)) (va_Qi (fun (r : Int32) (_ : Unit) => 0 ≤ r.toInt ∧ r.toInt ≤ 0) (fun (_ : Unit) (t : State) => va_P (dC, dI) vwCl [] t.heap ∧ va_K (dC, dI) vwCl [] t ∧ va_D (va_A [] sz) []) (va_A [] sz)) 0 0 (va_A [] sz) := by
  refine pv_ofWF (cc := cJ0_coder_7d493) (maxL := 1) (ret := (some .byte)) (by decide +kernel) rfl ?_
  intro p e s m args below meth c s₁ B hml hv
  obtain ⟨rfl, hsz, hP, hK, hD0, h_st_CS, h_st_S⟩ := hv
  have hx := B.exec
  have hb := B.bytes
  have hr := B.returns
  have hts := atoms_spec (ws := q_J0_coder_7d493) B.pre
  have hown : s.vm.findClass RJ0 = some m.cls := findClass_of_methodNamed B.named
  have hlocks := B.notSynchronized
  subst hsz
  have hD := hD0.self (sz := s.heap.size)
  generalize hAe : va_A [] s.heap.size = A at hD h_st_CS h_st_S ⊢
  have hA : ∀ q : Nat, s.heap.size ≤ q → A q := fun q h => by rw [← hAe]; exact Or.inr h
  have hS : va_S A s.heap s.heap [] := va_S.rf
  generalize hQ : (MQ below _ _ s 0 0 A) = Q
  have hl := lv_entry ([.ref (adK 2)]) (n := 1) (Nat.le_of_ble_eq_true rfl)
  rw [lg_entry_eq]
  generalize (lg_sl ([.ref (adK 2)]) ++ List.replicate (1 - (lg_sl ([.ref (adK 2)])).length) Slot.unset).toArray = ls at hl ⊢
  have hl : lv_has ls 1 [(0, .ref (adK 2))] := hl
  obtain ⟨H, hH⟩ : ∃ H : Heap, H = s.heap := ⟨_, rfl⟩
  obtain ⟨locs, hlocs⟩ : ∃ y : List Loc, y = [] := ⟨_, rfl⟩
  have hS : va_S A s.heap H locs := by rw [hH, hlocs]; exact va_S.rf
  have hP : va_P (dC, dI) vwCl [] H := by rw [hH]; exact hP
  rw [← hH, ← hlocs]
  refine va_gets hx hb h_st_CS hS hown (hts (.fieldLink RJ0 38 "java/lang/String" "COMPACT_STRINGS" "Z") (List.mem_cons_of_mem _ (List.mem_of_getElem? (i := 0) rfl))) (fun _ h9 => h9) dJ0_coder_7d493_0 ?_
  refine lv_if_eq (tgt := 13) hx hb dJ0_coder_7d493_3 (by decide) (fun c => absurd c (by decide)) (fun _ => ?_)
  refine lv_aload_n hx hb dJ0_coder_7d493_6 rfl (lv_at hl 0 rfl) ?_
  refine vk_getf hx hb (h_st_S.1 2 (by decide)).2.1 hS hown (hts (.fieldLink RJ0 15 "java/lang/String" "coder" "B") (List.mem_cons_of_mem _ (List.mem_of_getElem? (i := 1) rfl))) (fun _ h9 => h9) dJ0_coder_7d493_7 ?_
  refine lv_goto (tgt := 14) hx hb dJ0_coder_7d493_10 (by decide) ?_
  subst hQ
  have hP9 := hP.sub (ws' := []) [] rfl
  have hD9 := hD.sub (ws' := []) [] (by decide) rfl
  have hK9 := hK.sub (tys' := []) [] rfl
  exact W.zret (v := 0) hx hb hr rfl (fun t ht hW => ⟨⟨0, (), rfl, ⟨by first | omega | decide, by first | omega | decide⟩, by rw [ht]; exact hP9, va_K.moved hW.alike hK9, hD9⟩, hS.F ht⟩) hS.2.2 dJ0_coder_7d493_14
def q_J0_length_8abf5 : List Cond := .code yJ0_length_8abf5 cJ0_length_8abf5 1 (some .int) :: (([.fieldLink RJ0 9 "java/lang/String" "value" "[B", .code yJ0_coder_7d493 cJ0_coder_7d493 1 (some .byte), .fieldLink RJ0 38 "java/lang/String" "COMPACT_STRINGS" "Z", .fieldLink RJ0 15 "java/lang/String" "coder" "B", .initialized RJ0, .instanceMethod yJ0_coder_7d493, .selects RJ0 yJ0_coder_7d493 yJ0_coder_7d493, .methodLink RJ0 335 yJ0_coder_7d493] : List Cond))
set_option maxRecDepth 20000 in
theorem g_J0_length_8abf5_0 : GoodIn q_J0_length_8abf5 (wsV RJ0 335 RJ0 yJ0_coder_7d493 q_J0_coder_7d493) := goodIn_app (goodIn_r _ [8, 6, 7, 5] rfl (by decide +kernel)) (goodIn_r (.code yJ0_coder_7d493 cJ0_coder_7d493 1 (some .byte) :: [.fieldLink RJ0 38 "java/lang/String" "COMPACT_STRINGS" "Z", .fieldLink RJ0 15 "java/lang/String" "coder" "B"]) [2, 3, 4] rfl (by decide +kernel))
set_option maxHeartbeats 4000000 in
set_option maxRecDepth 100000 in
theorem k_J0_length_8abf5 (l : Launch) (dC : Nat → ClassId) (dI : Nat → Nat → Nat) (adK : Nat → Nat) (adV : Nat → Nat) (sz : Nat) : Met l yJ0_length_8abf5 q_J0_length_8abf5 ({ frames := 1, cells := 0, slots := 0, locals := 20 }) (va_Pc [.ref (adK 2)] (fun U => U.heap.size = sz ∧ va_P (dC, dI) vwCl [] U.heap ∧ va_K (dC, dI) vwCl [] U ∧ va_D (fun _ => True) [] ∧ vk_S 3 pv_len3 pv_byt3 adK adV (va_A [] sz) U U.heap ∧ va_Z "java/lang/String" "COMPACT_STRINGS" "Z" (.int 1) (va_A [] sz) U U.heap)) (va_Qi (fun (r : Int32) (_ : Unit) => 6 ≤ r.toInt ∧ r.toInt ≤ 6) (fun (_ : Unit) (t : State) => va_P (dC, dI) vwCl [] t.heap ∧ va_K (dC, dI) vwCl [] t ∧ va_D (va_A [] sz) []) (va_A [] sz)) 0 0 (va_A [] sz) := by
  refine pv_ofWF (cc := cJ0_length_8abf5) (maxL := 1) (ret := (some .int)) (by decide +kernel) rfl ?_
  intro p e s m args below meth c s₁ B hml hv
  obtain ⟨rfl, hsz, hP, hK, hD0, h_st_S, h_st_CS⟩ := hv
  have hx := B.exec
  have hb := B.bytes
  have hr := B.returns
  have hts := atoms_spec (ws := q_J0_length_8abf5) B.pre
  have hown : s.vm.findClass RJ0 = some m.cls := findClass_of_methodNamed B.named
  have hlocks := B.notSynchronized
  subst hsz
  have hD := hD0.self (sz := s.heap.size)
  generalize hAe : va_A [] s.heap.size = A at hD h_st_S h_st_CS ⊢
  have hA : ∀ q : Nat, s.heap.size ≤ q → A q := fun q h => by rw [← hAe]; exact Or.inr h
  have hS : va_S A s.heap s.heap [] := va_S.rf
  generalize hQ : (MQ below _ _ s 0 0 A) = Q
  have hl := lv_entry ([.ref (adK 2)]) (n := 1) (Nat.le_of_ble_eq_true rfl)
  rw [lg_entry_eq]
  generalize (lg_sl ([.ref (adK 2)]) ++ List.replicate (1 - (lg_sl ([.ref (adK 2)])).length) Slot.unset).toArray = ls at hl ⊢
  have hl : lv_has ls 1 [(0, .ref (adK 2))] := hl
  obtain ⟨H, hH⟩ : ∃ H : Heap, H = s.heap := ⟨_, rfl⟩
  obtain ⟨locs, hlocs⟩ : ∃ y : List Loc, y = [] := ⟨_, rfl⟩
  have hS : va_S A s.heap H locs := by rw [hH, hlocs]; exact va_S.rf
  have hP : va_P (dC, dI) vwCl [] H := by rw [hH]; exact hP
  rw [← hH, ← hlocs]
  refine lv_aload_n hx hb dJ0_length_8abf5_0 rfl (lv_at hl 0 rfl) ?_
  refine vk_getf hx hb (h_st_S.1 2 (by decide)).2.2.1 hS hown (hts (.fieldLink RJ0 9 "java/lang/String" "value" "[B") (List.mem_cons_of_mem _ (List.mem_of_getElem? (i := 0) rfl))) (fun _ h9 => h9) dJ0_length_8abf5_1 ?_
  refine va_tlen (v := 6) hx hb (h_st_S.1 2 (by decide)).2.2.2 hS (by decide) dJ0_length_8abf5_4 ?_
  refine lv_aload_n hx hb dJ0_length_8abf5_5 rfl (lv_at hl 0 rfl) ?_
  have hPc := hP.sub (ws' := []) [] rfl
  have hDc := hD.sub (ws' := []) [] (by decide) rfl
  have hKc := hK.sub (tys' := []) [] rfl
  have hFc := va_free (wc := []) hD hS hA [] rfl
  refine va_calli (va_runV (As := []) (rest := [.int 6]) ⟨hx, hb, hml, hown, hts⟩ (k_J0_coder_7d493 l dC dI adK adV  H.size) (cwV 0 hts g_J0_length_8abf5_0 rfl rfl rfl (by decide +kernel) ⟨Nat.le_of_ble_eq_true rfl, Nat.le_of_ble_eq_true rfl⟩) ⟨fun a U g mk q => by obtain ⟨q0, q1, qP, qK, qD, n0, n1⟩ := q; exact ⟨q0, q1, qP, va_K.moved (u := U) (U := U.calling g mk a) (Vm.Alike.refl U.vm) qK, qD, va_Z.moved (Vm.Alike.refl _) n0, vk_S.moved (Vm.Alike.refl _) n1⟩, vk_recv h_st_S (by decide : 2 < 3) hS, fun U hU hW => ⟨rfl, by rw [hU], by rw [hU]; exact hPc, va_K.moved hW.alike hKc, hDc.weaken (fun _ _ _ _ => trivial), (by rw [hU]; exact (va_Z.moved hW.alike (va_Z.kept h_st_CS hS.2.1)).narrow hFc), (by rw [hU]; exact (vk_S.moved hW.alike (vk_S.kept h_st_S hS.2.1)).narrow hFc)⟩⟩ rfl rfl hl.1 rfl (lv_room (Nat.le_of_ble_eq_true rfl)) dJ0_length_8abf5_6 ⟨Nat.le_of_ble_eq_true rfl, Nat.le_of_ble_eq_true rfl⟩) hS (fun q _ h => hFc q h) hFc (fun ra1 u t H1 locs ht hvm hwra1 hB hz1 hk1 hS => ?_)
  obtain ⟨hP1, hK1, hD1⟩ := hB
  rw [ht] at hP1
  obtain ⟨hP2, hD2⟩ := va_join (wr := []) (w1 := []) hP hD [] [] rfl rfl (by decide) (by decide) hk1 hFc hP1 hD1
  clear hP hD hPc hDc hKc hFc hP1 hK1 hD1 hk1 hz1
  generalize H1 = H at hP2 hS ⊢
  have hP : va_P (dC, dI) vwCl [] H := hP2
  have hD : va_D A [] := hD2
  clear hP2 hD2
  obtain ⟨wa_ra1, wb_ra1⟩ := hwra1
  have wa_ra1 : 0 ≤ ra1.toInt := wa_ra1
  have wb_ra1 : ra1.toInt ≤ 0 := wb_ra1
  obtain rfl : ra1 = (0 : Int32) := Int32.toInt_inj.mp (by rw [show ((0 : Int32)).toInt = 0 by decide]; omega)
  refine lv_ishr hx hb dJ0_length_8abf5_9 ?_
  refine lv_topi (fun tv2 etv2 => ?_)
  obtain rfl : tv2 = (6 : Int32) := etv2.trans (by first | rfl | decide)
  subst hQ
  have hP9 := hP.sub (ws' := []) [] rfl
  have hD9 := hD.sub (ws' := []) [] (by decide) rfl
  have hK9 := hK.sub (tys' := []) [] rfl
  exact W.iret (v := 6) hx hb hr (fun t ht hW => ⟨⟨6, (), rfl, ⟨by first | omega | decide, by first | omega | decide⟩, by rw [ht]; exact hP9, va_K.moved hW.alike hK9, hD9⟩, hS.F ht⟩) hS.2.2 dJ0_length_8abf5_10
def q_J1_canEncode_9a6ad : List Cond := .code yJ1_canEncode_9a6ad cJ1_canEncode_9a6ad 1 (some .boolean) :: (([] : List Cond))
set_option maxHeartbeats 4000000 in
set_option maxRecDepth 100000 in
theorem k_J1_canEncode_9a6ad (l : Launch) (dC : Nat → ClassId) (dI : Nat → Nat → Nat) (v0 : Int32) (sz : Nat) : Met l yJ1_canEncode_9a6ad q_J1_canEncode_9a6ad ({ frames := 0, cells := 0, slots := 0, locals := 0 }) (va_Pc [.int v0] (fun U => U.heap.size = sz ∧ va_P (dC, dI) vwCl [] U.heap ∧ va_K (dC, dI) vwCl [] U ∧ va_D (fun _ => True) [])) (va_Qi (fun (r : Int32) (r9 : Int32) => r9 = r) (fun (r : Int32) (t : State) => ((0 ≤ r.toInt) ∧ (r.toInt ≤ 1) ∧ ((r.toInt = 1 → 0 ≤ v0.toInt)) ∧ ((r.toInt = 1 → v0.toInt ≤ 255)) ∧ (r.toInt = 0 → ¬ (0 ≤ v0.toInt ∧ v0.toInt ≤ 255)) ∧ va_P (dC, dI) vwCl [] t.heap ∧ va_K (dC, dI) vwCl [] t ∧ va_D (va_A [] sz) [])) (va_A [] sz)) 0 0 (va_A [] sz) := by
  refine pv_ofWF (cc := cJ1_canEncode_9a6ad) (maxL := 1) (ret := (some .boolean)) (by decide +kernel) rfl ?_
  intro p e s m args below meth c s₁ B hml hv
  obtain ⟨rfl, hsz, hP, hK, hD0⟩ := hv
  have hx := B.exec
  have hb := B.bytes
  have hr := B.returns
  have hts := atoms_spec (ws := q_J1_canEncode_9a6ad) B.pre
  have hown : s.vm.findClass RJ1 = some m.cls := findClass_of_methodNamed B.named
  have hlocks := B.notSynchronized
  subst hsz
  have hD := hD0.self (sz := s.heap.size)
  generalize hAe : va_A [] s.heap.size = A at hD ⊢
  have hA : ∀ q : Nat, s.heap.size ≤ q → A q := fun q h => by rw [← hAe]; exact Or.inr h
  have hS : va_S A s.heap s.heap [] := va_S.rf
  generalize hQ : (MQ below _ _ s 0 0 A) = Q
  have hl := lv_entry ([.int v0]) (n := 1) (Nat.le_of_ble_eq_true rfl)
  rw [lg_entry_eq]
  generalize (lg_sl ([.int v0]) ++ List.replicate (1 - (lg_sl ([.int v0])).length) Slot.unset).toArray = ls at hl ⊢
  have hl : lv_has ls 1 [(0, .int v0)] := hl
  obtain ⟨H, hH⟩ : ∃ H : Heap, H = s.heap := ⟨_, rfl⟩
  obtain ⟨locs, hlocs⟩ : ∃ y : List Loc, y = [] := ⟨_, rfl⟩
  have hS : va_S A s.heap H locs := by rw [hH, hlocs]; exact va_S.rf
  have hP : va_P (dC, dI) vwCl [] H := by rw [hH]; exact hP
  rw [← hH, ← hlocs]
  refine lv_iload_n hx hb dJ1_canEncode_9a6ad_0 rfl (lv_at hl 0 rfl) ?_
  refine lv_if_lt (tgt := 15) hx hb dJ1_canEncode_9a6ad_1 (by decide) (fun c1 => ?_) (fun c1 => ?_)
  · skip
    have fc1 : v0.toInt < 0 := Int32.lt_iff_toInt_lt.mp c1
    refine lv_iconst (v := 0) hx hb dJ1_canEncode_9a6ad_15 (by decide) ?_
    subst hQ
    have hP9 := hP.sub (ws' := []) [] rfl
    have hD9 := hD.sub (ws' := []) [] (by decide) rfl
    have hK9 := hK.sub (tys' := []) [] rfl
    exact W.zret (v := 0) hx hb hr rfl (fun t ht hW => ⟨⟨0, 0, rfl, rfl, ⟨by first | omega | decide, by first | omega | decide, fun h9 => absurd h9 (by decide), fun h9 => absurd h9 (by decide), fun _ => by omega, by rw [ht]; exact hP9, va_K.moved hW.alike hK9, hD9⟩⟩, hS.F ht⟩) hS.2.2 dJ1_canEncode_9a6ad_16
  · skip
    have fc1 : ¬ (v0.toInt < 0) := fun h9 => c1 (Int32.lt_iff_toInt_lt.mpr h9)
    refine lv_iload_n hx hb dJ1_canEncode_9a6ad_4 rfl (lv_at hl 0 rfl) ?_
    refine lv_sipush (v := 255) hx hb dJ1_canEncode_9a6ad_5 (by decide) ?_
    refine lv_icmp_gt (tgt := 15) hx hb dJ1_canEncode_9a6ad_8 (by decide) (fun c2 => ?_) (fun c2 => ?_)
    · skip
      have fc2 : 255 < v0.toInt := Int32.lt_iff_toInt_lt.mp c2
      refine lv_iconst (v := 0) hx hb dJ1_canEncode_9a6ad_15 (by decide) ?_
      subst hQ
      have hP9 := hP.sub (ws' := []) [] rfl
      have hD9 := hD.sub (ws' := []) [] (by decide) rfl
      have hK9 := hK.sub (tys' := []) [] rfl
      exact W.zret (v := 0) hx hb hr rfl (fun t ht hW => ⟨⟨0, 0, rfl, rfl, ⟨by first | omega | decide, by first | omega | decide, fun h9 => absurd h9 (by decide), fun h9 => absurd h9 (by decide), fun _ => by omega, by rw [ht]; exact hP9, va_K.moved hW.alike hK9, hD9⟩⟩, hS.F ht⟩) hS.2.2 dJ1_canEncode_9a6ad_16
    · skip
      have fc2 : ¬ (255 < v0.toInt) := fun h9 => c2 (Int32.lt_iff_toInt_lt.mpr h9)
      refine lv_iconst (v := 1) hx hb dJ1_canEncode_9a6ad_11 (by decide) ?_
      refine lv_goto (tgt := 16) hx hb dJ1_canEncode_9a6ad_12 (by decide) ?_
      subst hQ
      have hP9 := hP.sub (ws' := []) [] rfl
      have hD9 := hD.sub (ws' := []) [] (by decide) rfl
      have hK9 := hK.sub (tys' := []) [] rfl
      exact W.zret (v := 1) hx hb hr rfl (fun t ht hW => ⟨⟨1, 1, rfl, rfl, ⟨by first | omega | decide, by first | omega | decide, fun _ => by omega, fun _ => by omega, fun h9 => absurd h9 (by decide), by rw [ht]; exact hP9, va_K.moved hW.alike hK9, hD9⟩⟩, hS.F ht⟩) hS.2.2 dJ1_canEncode_9a6ad_16
def q_J1_indexOfChar_4cfef : List Cond := .code yJ1_indexOfChar_4cfef cJ1_indexOfChar_4cfef 6 (some .int) :: (([] : List Cond))
set_option maxHeartbeats 4000000 in
set_option maxRecDepth 100000 in
theorem k_J1_indexOfChar_4cfef (l : Launch) (dC : Nat → ClassId) (dI : Nat → Nat → Nat) (adK : Nat → Nat) (adV : Nat → Nat) (v0 : Int32) (i_v0 : 0 ≤ v0.toInt ∧ v0.toInt ≤ 255) (sz : Nat) : Met l yJ1_indexOfChar_4cfef q_J1_indexOfChar_4cfef ({ frames := 0, cells := 0, slots := 0, locals := 0 }) (va_Pc [.ref (adV 2), .int v0, .int 0, .int 6] (fun U => U.heap.size = sz ∧ va_P (dC, dI) vwCl [] U.heap ∧ va_K (dC, dI) vwCl [] U ∧ va_D (fun _ => True) [] ∧ vk_S 3 pv_len3 pv_byt3 adK adV (va_A [] sz) U U.heap)) (va_Qi (fun (r : Int32) (r9 : Int32) => r9 = r) (fun (r : Int32) (t : State) => ((-1 ≤ r.toInt) ∧ (r.toInt ≤ 5) ∧ (r.toInt = pm_lt v0.toInt) ∧ va_P (dC, dI) vwCl [] t.heap ∧ va_K (dC, dI) vwCl [] t ∧ va_D (va_A [] sz) [])) (va_A [] sz)) 0 0 (va_A [] sz) := by
  refine pv_ofWF (cc := cJ1_indexOfChar_4cfef) (maxL := 6) (ret := (some .int)) (by decide +kernel) rfl ?_
  intro p e s m args below meth c s₁ B hml hv
  obtain ⟨i_v0a, i_v0b⟩ := i_v0
  obtain ⟨rfl, hsz, hP, hK, hD0, h_st_S⟩ := hv
  have hx := B.exec
  have hb := B.bytes
  have hr := B.returns
  have hts := atoms_spec (ws := q_J1_indexOfChar_4cfef) B.pre
  have hown : s.vm.findClass RJ1 = some m.cls := findClass_of_methodNamed B.named
  have hlocks := B.notSynchronized
  subst hsz
  have hD := hD0.self (sz := s.heap.size)
  generalize hAe : va_A [] s.heap.size = A at hD h_st_S ⊢
  have hA : ∀ q : Nat, s.heap.size ≤ q → A q := fun q h => by rw [← hAe]; exact Or.inr h
  have hS : va_S A s.heap s.heap [] := va_S.rf
  generalize hQ : (MQ below _ _ s 0 0 A) = Q
  have hl := lv_entry ([.ref (adV 2), .int v0, .int 0, .int 6]) (n := 6) (Nat.le_of_ble_eq_true rfl)
  rw [lg_entry_eq]
  generalize (lg_sl ([.ref (adV 2), .int v0, .int 0, .int 6]) ++ List.replicate (6 - (lg_sl ([.ref (adV 2), .int v0, .int 0, .int 6])).length) Slot.unset).toArray = ls at hl ⊢
  have hl : lv_has ls 6 [(0, .ref (adV 2)), (1, .int v0), (2, .int 0), (3, .int 6)] := hl
  obtain ⟨H, hH⟩ : ∃ H : Heap, H = s.heap := ⟨_, rfl⟩
  obtain ⟨locs, hlocs⟩ : ∃ y : List Loc, y = [] := ⟨_, rfl⟩
  have hS : va_S A s.heap H locs := by rw [hH, hlocs]; exact va_S.rf
  have hP : va_P (dC, dI) vwCl [] H := by rw [hH]; exact hP
  rw [← hH, ← hlocs]
  refine lv_iload_n hx hb dJ1_indexOfChar_4cfef_0 rfl (lv_at hl 1 rfl) ?_
  obtain ⟨t1, et1⟩ : ∃ z : Int32, z = (v0 : Int32).toInt8.toInt32 := ⟨_, rfl⟩
  refine lv_i2b (v := t1) hx hb dJ1_indexOfChar_4cfef_1 (by rw [et1]) ?_
  have h8t1 := pg_i8 (v := v0) (t := t1) (by assumption) (by omega) (by omega)
  refine lv_istore (lv' := [(4, .int t1), (0, .ref (adV 2)), (1, .int v0), (2, .int 0), (3, .int 6)]) hx hb dJ1_indexOfChar_4cfef_2 hl (by decide) rfl (fun ls hl => ?_)
  refine lv_iload_n hx hb dJ1_indexOfChar_4cfef_4 rfl (lv_at hl 3 rfl) ?_
  refine lv_istore (lv' := [(5, .int 0), (4, .int t1), (0, .ref (adV 2)), (1, .int v0), (2, .int 0), (3, .int 6)]) hx hb dJ1_indexOfChar_4cfef_5 hl (by decide) rfl (fun ls hl => ?_)
  refine lv_iload hx hb dJ1_indexOfChar_4cfef_7 (lv_at hl 0 rfl) ?_
  refine lv_iload_n hx hb dJ1_indexOfChar_4cfef_9 rfl (lv_at hl 5 rfl) ?_
  refine lv_icmp_ge (tgt := 31) hx hb dJ1_indexOfChar_4cfef_10 (by decide) (fun c => absurd c (by decide)) (fun _ => ?_)
  refine lv_aload_n hx hb dJ1_indexOfChar_4cfef_13 rfl (lv_at hl 2 rfl) ?_
  refine lv_iload hx hb dJ1_indexOfChar_4cfef_14 (lv_at hl 0 rfl) ?_
  refine va_tb hx hb (h_st_S.1 2 (by decide)).2.2.2 hS (pv_c (x := 0) (n := 6) (by decide)) rfl dJ1_indexOfChar_4cfef_16 ?_
  refine lv_topi (fun t2 et2 => ?_)
  have hbt2 : t2.toInt = 122 := by rw [et2]; decide
  refine lv_iload hx hb dJ1_indexOfChar_4cfef_17 (lv_at hl 1 rfl) ?_
  refine lv_icmp_ne (tgt := 25) hx hb dJ1_indexOfChar_4cfef_19 (by decide) (fun c3 => ?_) (fun c3 => ?_)
  · skip
    have fc3 : ¬ (t2.toInt = t1.toInt) := fun h9 => c3 (Int32.toInt_inj.mp h9)
    have r1c3 := Int32.toInt_lt t2
    have r2c3 := Int32.toInt_lt t1
    have r3c3 := Int32.le_toInt t2
    have r4c3 := Int32.le_toInt t1
    refine lv_iinc (v := 1) (lv' := [(5, .int 1), (4, .int t1), (0, .ref (adV 2)), (1, .int v0), (2, .int 0), (3, .int 6)]) hx hb dJ1_indexOfChar_4cfef_25 hl (k := 0) rfl (by decide) (by decide) rfl (fun ls hl => ?_)
    refine lv_goto (tgt := 7) hx hb dJ1_indexOfChar_4cfef_28 (by decide) ?_
    refine lv_iload hx hb dJ1_indexOfChar_4cfef_7 (lv_at hl 0 rfl) ?_
    refine lv_iload_n hx hb dJ1_indexOfChar_4cfef_9 rfl (lv_at hl 5 rfl) ?_
    refine lv_icmp_ge (tgt := 31) hx hb dJ1_indexOfChar_4cfef_10 (by decide) (fun c => absurd c (by decide)) (fun _ => ?_)
    refine lv_aload_n hx hb dJ1_indexOfChar_4cfef_13 rfl (lv_at hl 2 rfl) ?_
    refine lv_iload hx hb dJ1_indexOfChar_4cfef_14 (lv_at hl 0 rfl) ?_
    refine va_tb hx hb (h_st_S.1 2 (by decide)).2.2.2 hS (pv_c (x := 1) (n := 6) (by decide)) rfl dJ1_indexOfChar_4cfef_16 ?_
    refine lv_topi (fun t4 et4 => ?_)
    have hbt4 : t4.toInt = 97 := by rw [et4]; decide
    refine lv_iload hx hb dJ1_indexOfChar_4cfef_17 (lv_at hl 1 rfl) ?_
    refine lv_icmp_ne (tgt := 25) hx hb dJ1_indexOfChar_4cfef_19 (by decide) (fun c5 => ?_) (fun c5 => ?_)
    · skip
      have fc5 : ¬ (t4.toInt = t1.toInt) := fun h9 => c5 (Int32.toInt_inj.mp h9)
      have r1c5 := Int32.toInt_lt t4
      have r2c5 := Int32.toInt_lt t1
      have r3c5 := Int32.le_toInt t4
      have r4c5 := Int32.le_toInt t1
      refine lv_iinc (v := 2) (lv' := [(5, .int 2), (4, .int t1), (0, .ref (adV 2)), (1, .int v0), (2, .int 0), (3, .int 6)]) hx hb dJ1_indexOfChar_4cfef_25 hl (k := 0) rfl (by decide) (by decide) rfl (fun ls hl => ?_)
      refine lv_goto (tgt := 7) hx hb dJ1_indexOfChar_4cfef_28 (by decide) ?_
      refine lv_iload hx hb dJ1_indexOfChar_4cfef_7 (lv_at hl 0 rfl) ?_
      refine lv_iload_n hx hb dJ1_indexOfChar_4cfef_9 rfl (lv_at hl 5 rfl) ?_
      refine lv_icmp_ge (tgt := 31) hx hb dJ1_indexOfChar_4cfef_10 (by decide) (fun c => absurd c (by decide)) (fun _ => ?_)
      refine lv_aload_n hx hb dJ1_indexOfChar_4cfef_13 rfl (lv_at hl 2 rfl) ?_
      refine lv_iload hx hb dJ1_indexOfChar_4cfef_14 (lv_at hl 0 rfl) ?_
      refine va_tb hx hb (h_st_S.1 2 (by decide)).2.2.2 hS (pv_c (x := 2) (n := 6) (by decide)) rfl dJ1_indexOfChar_4cfef_16 ?_
      refine lv_topi (fun t6 et6 => ?_)
      have hbt6 : t6.toInt = 111 := by rw [et6]; decide
      refine lv_iload hx hb dJ1_indexOfChar_4cfef_17 (lv_at hl 1 rfl) ?_
      refine lv_icmp_ne (tgt := 25) hx hb dJ1_indexOfChar_4cfef_19 (by decide) (fun c7 => ?_) (fun c7 => ?_)
      · skip
        have fc7 : ¬ (t6.toInt = t1.toInt) := fun h9 => c7 (Int32.toInt_inj.mp h9)
        have r1c7 := Int32.toInt_lt t6
        have r2c7 := Int32.toInt_lt t1
        have r3c7 := Int32.le_toInt t6
        have r4c7 := Int32.le_toInt t1
        refine lv_iinc (v := 3) (lv' := [(5, .int 3), (4, .int t1), (0, .ref (adV 2)), (1, .int v0), (2, .int 0), (3, .int 6)]) hx hb dJ1_indexOfChar_4cfef_25 hl (k := 0) rfl (by decide) (by decide) rfl (fun ls hl => ?_)
        refine lv_goto (tgt := 7) hx hb dJ1_indexOfChar_4cfef_28 (by decide) ?_
        refine lv_iload hx hb dJ1_indexOfChar_4cfef_7 (lv_at hl 0 rfl) ?_
        refine lv_iload_n hx hb dJ1_indexOfChar_4cfef_9 rfl (lv_at hl 5 rfl) ?_
        refine lv_icmp_ge (tgt := 31) hx hb dJ1_indexOfChar_4cfef_10 (by decide) (fun c => absurd c (by decide)) (fun _ => ?_)
        refine lv_aload_n hx hb dJ1_indexOfChar_4cfef_13 rfl (lv_at hl 2 rfl) ?_
        refine lv_iload hx hb dJ1_indexOfChar_4cfef_14 (lv_at hl 0 rfl) ?_
        refine va_tb hx hb (h_st_S.1 2 (by decide)).2.2.2 hS (pv_c (x := 3) (n := 6) (by decide)) rfl dJ1_indexOfChar_4cfef_16 ?_
        refine lv_topi (fun t8 et8 => ?_)
        have hbt8 : t8.toInt = 110 := by rw [et8]; decide
        refine lv_iload hx hb dJ1_indexOfChar_4cfef_17 (lv_at hl 1 rfl) ?_
        refine lv_icmp_ne (tgt := 25) hx hb dJ1_indexOfChar_4cfef_19 (by decide) (fun c9 => ?_) (fun c9 => ?_)
        · skip
          have fc9 : ¬ (t8.toInt = t1.toInt) := fun h9 => c9 (Int32.toInt_inj.mp h9)
          have r1c9 := Int32.toInt_lt t8
          have r2c9 := Int32.toInt_lt t1
          have r3c9 := Int32.le_toInt t8
          have r4c9 := Int32.le_toInt t1
          refine lv_iinc (v := 4) (lv' := [(5, .int 4), (4, .int t1), (0, .ref (adV 2)), (1, .int v0), (2, .int 0), (3, .int 6)]) hx hb dJ1_indexOfChar_4cfef_25 hl (k := 0) rfl (by decide) (by decide) rfl (fun ls hl => ?_)
          refine lv_goto (tgt := 7) hx hb dJ1_indexOfChar_4cfef_28 (by decide) ?_
          refine lv_iload hx hb dJ1_indexOfChar_4cfef_7 (lv_at hl 0 rfl) ?_
          refine lv_iload_n hx hb dJ1_indexOfChar_4cfef_9 rfl (lv_at hl 5 rfl) ?_
          refine lv_icmp_ge (tgt := 31) hx hb dJ1_indexOfChar_4cfef_10 (by decide) (fun c => absurd c (by decide)) (fun _ => ?_)
          refine lv_aload_n hx hb dJ1_indexOfChar_4cfef_13 rfl (lv_at hl 2 rfl) ?_
          refine lv_iload hx hb dJ1_indexOfChar_4cfef_14 (lv_at hl 0 rfl) ?_
          refine va_tb hx hb (h_st_S.1 2 (by decide)).2.2.2 hS (pv_c (x := 4) (n := 6) (by decide)) rfl dJ1_indexOfChar_4cfef_16 ?_
          refine lv_topi (fun t10 et10 => ?_)
          have hbt10 : t10.toInt = 100 := by rw [et10]; decide
          refine lv_iload hx hb dJ1_indexOfChar_4cfef_17 (lv_at hl 1 rfl) ?_
          refine lv_icmp_ne (tgt := 25) hx hb dJ1_indexOfChar_4cfef_19 (by decide) (fun c11 => ?_) (fun c11 => ?_)
          · skip
            have fc11 : ¬ (t10.toInt = t1.toInt) := fun h9 => c11 (Int32.toInt_inj.mp h9)
            have r1c11 := Int32.toInt_lt t10
            have r2c11 := Int32.toInt_lt t1
            have r3c11 := Int32.le_toInt t10
            have r4c11 := Int32.le_toInt t1
            refine lv_iinc (v := 5) (lv' := [(5, .int 5), (4, .int t1), (0, .ref (adV 2)), (1, .int v0), (2, .int 0), (3, .int 6)]) hx hb dJ1_indexOfChar_4cfef_25 hl (k := 0) rfl (by decide) (by decide) rfl (fun ls hl => ?_)
            refine lv_goto (tgt := 7) hx hb dJ1_indexOfChar_4cfef_28 (by decide) ?_
            refine lv_iload hx hb dJ1_indexOfChar_4cfef_7 (lv_at hl 0 rfl) ?_
            refine lv_iload_n hx hb dJ1_indexOfChar_4cfef_9 rfl (lv_at hl 5 rfl) ?_
            refine lv_icmp_ge (tgt := 31) hx hb dJ1_indexOfChar_4cfef_10 (by decide) (fun c => absurd c (by decide)) (fun _ => ?_)
            refine lv_aload_n hx hb dJ1_indexOfChar_4cfef_13 rfl (lv_at hl 2 rfl) ?_
            refine lv_iload hx hb dJ1_indexOfChar_4cfef_14 (lv_at hl 0 rfl) ?_
            refine va_tb hx hb (h_st_S.1 2 (by decide)).2.2.2 hS (pv_c (x := 5) (n := 6) (by decide)) rfl dJ1_indexOfChar_4cfef_16 ?_
            refine lv_topi (fun t12 et12 => ?_)
            have hbt12 : t12.toInt = 116 := by rw [et12]; decide
            refine lv_iload hx hb dJ1_indexOfChar_4cfef_17 (lv_at hl 1 rfl) ?_
            refine lv_icmp_ne (tgt := 25) hx hb dJ1_indexOfChar_4cfef_19 (by decide) (fun c13 => ?_) (fun c13 => ?_)
            · skip
              have fc13 : ¬ (t12.toInt = t1.toInt) := fun h9 => c13 (Int32.toInt_inj.mp h9)
              have r1c13 := Int32.toInt_lt t12
              have r2c13 := Int32.toInt_lt t1
              have r3c13 := Int32.le_toInt t12
              have r4c13 := Int32.le_toInt t1
              refine lv_iinc (v := 6) (lv' := [(5, .int 6), (4, .int t1), (0, .ref (adV 2)), (1, .int v0), (2, .int 0), (3, .int 6)]) hx hb dJ1_indexOfChar_4cfef_25 hl (k := 0) rfl (by decide) (by decide) rfl (fun ls hl => ?_)
              refine lv_goto (tgt := 7) hx hb dJ1_indexOfChar_4cfef_28 (by decide) ?_
              refine lv_iload hx hb dJ1_indexOfChar_4cfef_7 (lv_at hl 0 rfl) ?_
              refine lv_iload_n hx hb dJ1_indexOfChar_4cfef_9 rfl (lv_at hl 5 rfl) ?_
              refine lv_icmp_ge (tgt := 31) hx hb dJ1_indexOfChar_4cfef_10 (by decide) (fun _ => ?_) (fun c => absurd (by decide) c)
              refine lv_iconst (v := (-1)) hx hb dJ1_indexOfChar_4cfef_31 (by decide) ?_
              subst hQ
              have hP9 := hP.sub (ws' := []) [] rfl
              have hD9 := hD.sub (ws' := []) [] (by decide) rfl
              have hK9 := hK.sub (tys' := []) [] rfl
              exact W.iret (v := (-1)) hx hb hr (fun t ht hW => ⟨⟨(-1), (-1), rfl, rfl, ⟨by first | omega | decide, by first | omega | decide, by first | assumption | (unfold pm_lt; (repeat' split) <;> first | omega | decide | (exfalso; omega)), by rw [ht]; exact hP9, va_K.moved hW.alike hK9, hD9⟩⟩, hS.F ht⟩) hS.2.2 dJ1_indexOfChar_4cfef_32
            · skip
              have fc13 : t12.toInt = t1.toInt := congrArg Int32.toInt c13
              have r1c13 := Int32.toInt_lt t12
              have r2c13 := Int32.toInt_lt t1
              have r3c13 := Int32.le_toInt t12
              have r4c13 := Int32.le_toInt t1
              refine lv_iload hx hb dJ1_indexOfChar_4cfef_22 (lv_at hl 0 rfl) ?_
              subst hQ
              have hP9 := hP.sub (ws' := []) [] rfl
              have hD9 := hD.sub (ws' := []) [] (by decide) rfl
              have hK9 := hK.sub (tys' := []) [] rfl
              exact W.iret (v := 5) hx hb hr (fun t ht hW => ⟨⟨5, 5, rfl, rfl, ⟨by first | omega | decide, by first | omega | decide, by first | assumption | (unfold pm_lt; (repeat' split) <;> first | omega | decide | (exfalso; omega)), by rw [ht]; exact hP9, va_K.moved hW.alike hK9, hD9⟩⟩, hS.F ht⟩) hS.2.2 dJ1_indexOfChar_4cfef_24
          · skip
            have fc11 : t10.toInt = t1.toInt := congrArg Int32.toInt c11
            have r1c11 := Int32.toInt_lt t10
            have r2c11 := Int32.toInt_lt t1
            have r3c11 := Int32.le_toInt t10
            have r4c11 := Int32.le_toInt t1
            refine lv_iload hx hb dJ1_indexOfChar_4cfef_22 (lv_at hl 0 rfl) ?_
            subst hQ
            have hP9 := hP.sub (ws' := []) [] rfl
            have hD9 := hD.sub (ws' := []) [] (by decide) rfl
            have hK9 := hK.sub (tys' := []) [] rfl
            exact W.iret (v := 4) hx hb hr (fun t ht hW => ⟨⟨4, 4, rfl, rfl, ⟨by first | omega | decide, by first | omega | decide, by first | assumption | (unfold pm_lt; (repeat' split) <;> first | omega | decide | (exfalso; omega)), by rw [ht]; exact hP9, va_K.moved hW.alike hK9, hD9⟩⟩, hS.F ht⟩) hS.2.2 dJ1_indexOfChar_4cfef_24
        · skip
          have fc9 : t8.toInt = t1.toInt := congrArg Int32.toInt c9
          have r1c9 := Int32.toInt_lt t8
          have r2c9 := Int32.toInt_lt t1
          have r3c9 := Int32.le_toInt t8
          have r4c9 := Int32.le_toInt t1
          refine lv_iload hx hb dJ1_indexOfChar_4cfef_22 (lv_at hl 0 rfl) ?_
          subst hQ
          have hP9 := hP.sub (ws' := []) [] rfl
          have hD9 := hD.sub (ws' := []) [] (by decide) rfl
          have hK9 := hK.sub (tys' := []) [] rfl
          exact W.iret (v := 3) hx hb hr (fun t ht hW => ⟨⟨3, 3, rfl, rfl, ⟨by first | omega | decide, by first | omega | decide, by first | assumption | (unfold pm_lt; (repeat' split) <;> first | omega | decide | (exfalso; omega)), by rw [ht]; exact hP9, va_K.moved hW.alike hK9, hD9⟩⟩, hS.F ht⟩) hS.2.2 dJ1_indexOfChar_4cfef_24
      · skip
        have fc7 : t6.toInt = t1.toInt := congrArg Int32.toInt c7
        have r1c7 := Int32.toInt_lt t6
        have r2c7 := Int32.toInt_lt t1
        have r3c7 := Int32.le_toInt t6
        have r4c7 := Int32.le_toInt t1
        refine lv_iload hx hb dJ1_indexOfChar_4cfef_22 (lv_at hl 0 rfl) ?_
        subst hQ
        have hP9 := hP.sub (ws' := []) [] rfl
        have hD9 := hD.sub (ws' := []) [] (by decide) rfl
        have hK9 := hK.sub (tys' := []) [] rfl
        exact W.iret (v := 2) hx hb hr (fun t ht hW => ⟨⟨2, 2, rfl, rfl, ⟨by first | omega | decide, by first | omega | decide, by first | assumption | (unfold pm_lt; (repeat' split) <;> first | omega | decide | (exfalso; omega)), by rw [ht]; exact hP9, va_K.moved hW.alike hK9, hD9⟩⟩, hS.F ht⟩) hS.2.2 dJ1_indexOfChar_4cfef_24
    · skip
      have fc5 : t4.toInt = t1.toInt := congrArg Int32.toInt c5
      have r1c5 := Int32.toInt_lt t4
      have r2c5 := Int32.toInt_lt t1
      have r3c5 := Int32.le_toInt t4
      have r4c5 := Int32.le_toInt t1
      refine lv_iload hx hb dJ1_indexOfChar_4cfef_22 (lv_at hl 0 rfl) ?_
      subst hQ
      have hP9 := hP.sub (ws' := []) [] rfl
      have hD9 := hD.sub (ws' := []) [] (by decide) rfl
      have hK9 := hK.sub (tys' := []) [] rfl
      exact W.iret (v := 1) hx hb hr (fun t ht hW => ⟨⟨1, 1, rfl, rfl, ⟨by first | omega | decide, by first | omega | decide, by first | assumption | (unfold pm_lt; (repeat' split) <;> first | omega | decide | (exfalso; omega)), by rw [ht]; exact hP9, va_K.moved hW.alike hK9, hD9⟩⟩, hS.F ht⟩) hS.2.2 dJ1_indexOfChar_4cfef_24
  · skip
    have fc3 : t2.toInt = t1.toInt := congrArg Int32.toInt c3
    have r1c3 := Int32.toInt_lt t2
    have r2c3 := Int32.toInt_lt t1
    have r3c3 := Int32.le_toInt t2
    have r4c3 := Int32.le_toInt t1
    refine lv_iload hx hb dJ1_indexOfChar_4cfef_22 (lv_at hl 0 rfl) ?_
    subst hQ
    have hP9 := hP.sub (ws' := []) [] rfl
    have hD9 := hD.sub (ws' := []) [] (by decide) rfl
    have hK9 := hK.sub (tys' := []) [] rfl
    exact W.iret (v := 0) hx hb hr (fun t ht hW => ⟨⟨0, 0, rfl, rfl, ⟨by first | omega | decide, by first | omega | decide, by first | assumption | (unfold pm_lt; (repeat' split) <;> first | omega | decide | (exfalso; omega)), by rw [ht]; exact hP9, va_K.moved hW.alike hK9, hD9⟩⟩, hS.F ht⟩) hS.2.2 dJ1_indexOfChar_4cfef_24
def q_J1_indexOf_4cfef : List Cond := .code yJ1_indexOf_4cfef cJ1_indexOf_4cfef 4 (some .int) :: (([.code yJ1_canEncode_9a6ad cJ1_canEncode_9a6ad 1 (some .boolean), .initialized RJ1, .static yJ1_canEncode_9a6ad, .methodLink RJ1 88 yJ1_canEncode_9a6ad, .methodLink RJ1 92 Lib.Math.max.name, .static Lib.Math.max.name, .initialized "java/lang/Math", .code Lib.Math.max.name Lib.Math.max.code 2 (some .int), .methodLink RJ1 38 Lib.Math.min.name, .static Lib.Math.min.name, .code Lib.Math.min.name Lib.Math.min.code 2 (some .int), .code yJ1_indexOfChar_4cfef cJ1_indexOfChar_4cfef 6 (some .int), .static yJ1_indexOfChar_4cfef, .methodLink RJ1 95 yJ1_indexOfChar_4cfef] : List Cond))
set_option maxRecDepth 20000 in
theorem g_J1_indexOf_4cfef_0 : GoodIn q_J1_indexOf_4cfef (va_wsS RJ1 88 yJ1_canEncode_9a6ad q_J1_canEncode_9a6ad) := goodIn_app (goodIn_r _ [4, 3, 2] rfl (by decide +kernel)) (goodIn_r (.code yJ1_canEncode_9a6ad cJ1_canEncode_9a6ad 1 (some .boolean) :: []) [1] rfl (by decide +kernel))
set_option maxRecDepth 20000 in
theorem g_J1_indexOf_4cfef_1 : GoodIn q_J1_indexOf_4cfef (va_wsS RJ1 95 yJ1_indexOfChar_4cfef q_J1_indexOfChar_4cfef) := goodIn_app (goodIn_r _ [14, 13, 2] rfl (by decide +kernel)) (goodIn_r (.code yJ1_indexOfChar_4cfef cJ1_indexOfChar_4cfef 6 (some .int) :: []) [12] rfl (by decide +kernel))
set_option maxHeartbeats 4000000 in
set_option maxRecDepth 100000 in
theorem k_J1_indexOf_4cfef (l : Launch) (dC : Nat → ClassId) (dI : Nat → Nat → Nat) (adK : Nat → Nat) (adV : Nat → Nat) (v0 : Int32) (sz : Nat) : Met l yJ1_indexOf_4cfef q_J1_indexOf_4cfef ({ frames := 1, cells := 0, slots := 0, locals := 25 }) (va_Pc [.ref (adV 2), .int v0, .int 0, .int 6] (fun U => U.heap.size = sz ∧ va_P (dC, dI) vwCl [] U.heap ∧ va_K (dC, dI) vwCl [] U ∧ va_D (fun _ => True) [] ∧ vk_S 3 pv_len3 pv_byt3 adK adV (va_A [] sz) U U.heap)) (va_Qi (fun (r : Int32) (r9 : Int32) => r9 = r) (fun (r : Int32) (t : State) => ((-1 ≤ r.toInt) ∧ (r.toInt ≤ 5) ∧ (r.toInt = pm_lt v0.toInt) ∧ va_P (dC, dI) vwCl [] t.heap ∧ va_K (dC, dI) vwCl [] t ∧ va_D (va_A [] sz) [])) (va_A [] sz)) 0 0 (va_A [] sz) := by
  refine pv_ofWF (cc := cJ1_indexOf_4cfef) (maxL := 4) (ret := (some .int)) (by decide +kernel) rfl ?_
  intro p e s m args below meth c s₁ B hml hv
  obtain ⟨rfl, hsz, hP, hK, hD0, h_st_S⟩ := hv
  have hx := B.exec
  have hb := B.bytes
  have hr := B.returns
  have hts := atoms_spec (ws := q_J1_indexOf_4cfef) B.pre
  have hown : s.vm.findClass RJ1 = some m.cls := findClass_of_methodNamed B.named
  have hlocks := B.notSynchronized
  subst hsz
  have hD := hD0.self (sz := s.heap.size)
  generalize hAe : va_A [] s.heap.size = A at hD h_st_S ⊢
  have hA : ∀ q : Nat, s.heap.size ≤ q → A q := fun q h => by rw [← hAe]; exact Or.inr h
  have hS : va_S A s.heap s.heap [] := va_S.rf
  generalize hQ : (MQ below _ _ s 0 0 A) = Q
  have hl := lv_entry ([.ref (adV 2), .int v0, .int 0, .int 6]) (n := 4) (Nat.le_of_ble_eq_true rfl)
  rw [lg_entry_eq]
  generalize (lg_sl ([.ref (adV 2), .int v0, .int 0, .int 6]) ++ List.replicate (4 - (lg_sl ([.ref (adV 2), .int v0, .int 0, .int 6])).length) Slot.unset).toArray = ls at hl ⊢
  have hl : lv_has ls 4 [(0, .ref (adV 2)), (1, .int v0), (2, .int 0), (3, .int 6)] := hl
  obtain ⟨H, hH⟩ : ∃ H : Heap, H = s.heap := ⟨_, rfl⟩
  obtain ⟨locs, hlocs⟩ : ∃ y : List Loc, y = [] := ⟨_, rfl⟩
  have hS : va_S A s.heap H locs := by rw [hH, hlocs]; exact va_S.rf
  have hP : va_P (dC, dI) vwCl [] H := by rw [hH]; exact hP
  rw [← hH, ← hlocs]
  refine lv_iload_n hx hb dJ1_indexOf_4cfef_0 rfl (lv_at hl 1 rfl) ?_
  have hPc := hP.sub (ws' := []) [] rfl
  have hDc := hD.sub (ws' := []) [] (by decide) rfl
  have hKc := hK.sub (tys' := []) [] rfl
  have hFc := va_free (wc := []) hD hS hA [] rfl
  refine va_calli (va_runS (As := [.int v0]) (rest := []) ⟨hx, hb, hml, hown, hts⟩ (k_J1_canEncode_9a6ad l dC dI v0  H.size) (va_cwS 1 hts g_J1_indexOf_4cfef_0 rfl rfl rfl (by decide +kernel) ⟨Nat.le_of_ble_eq_true rfl, Nat.le_of_ble_eq_true rfl⟩) (pv_PS hPc hKc hDc) rfl rfl hl.1 rfl (lv_room (Nat.le_of_ble_eq_true rfl)) dJ1_indexOf_4cfef_1 ⟨Nat.le_of_ble_eq_true rfl, Nat.le_of_ble_eq_true rfl⟩) hS (fun q _ h => hFc q h) hFc (fun ra1 u t H1 locs ht hvm hwra1 hB hz1 hk1 hS => ?_)
  try rw [hwra1] at hB
  obtain ⟨pt0_ra1, pt1_ra1, pt2_ra1, pt3_ra1, pt4_ra1, hP1, hK1, hD1⟩ := hB
  rw [ht] at hP1
  obtain ⟨hP2, hD2⟩ := va_join (wr := []) (w1 := []) hP hD [] [] rfl rfl (by decide) (by decide) hk1 hFc hP1 hD1
  clear hP hD hPc hDc hKc hFc hP1 hK1 hD1 hk1 hz1
  generalize H1 = H at hP2 hS ⊢
  have hP : va_P (dC, dI) vwCl [] H := hP2
  have hD : va_D A [] := hD2
  clear hP2 hD2
  refine lv_if_ne (tgt := 9) hx hb dJ1_indexOf_4cfef_4 (by decide) (fun c2 => ?_) (fun c2 => ?_)
  · skip
    have fc2 : ¬ (ra1.toInt = 0) := fun h9 => c2 (Int32.toInt_inj.mp h9)
    refine lv_iload_n hx hb dJ1_indexOf_4cfef_9 rfl (lv_at hl 2 rfl) ?_
    refine lv_iconst (v := 0) hx hb dJ1_indexOf_4cfef_10 (by decide) ?_
    refine va_mmax hx hb (by rw [hml]; exact hl.1.symm) hown (hts (.methodLink RJ1 92 Lib.Math.max.name) (List.mem_cons_of_mem _ (List.mem_of_getElem? (i := 4) rfl))) (hts (.static Lib.Math.max.name) (List.mem_cons_of_mem _ (List.mem_of_getElem? (i := 5) rfl))) (hts (.initialized "java/lang/Math") (List.mem_cons_of_mem _ (List.mem_of_getElem? (i := 6) rfl))) (hts (.code Lib.Math.max.name Lib.Math.max.code 2 (some .int)) (List.mem_cons_of_mem _ (List.mem_of_getElem? (i := 7) rfl))) (Nat.le_of_ble_eq_true rfl) (Nat.le_of_ble_eq_true rfl) (Nat.le_of_ble_eq_true rfl) (Nat.le_of_ble_eq_true rfl) dJ1_indexOf_4cfef_11 ?_
    refine lv_topi (fun tv3 etv3 => ?_)
    obtain rfl : tv3 = (0 : Int32) := etv3.trans (by first | rfl | decide)
    refine lv_istore_n (lv' := [(2, .int 0), (0, .ref (adV 2)), (1, .int v0), (3, .int 6)]) hx hb dJ1_indexOf_4cfef_14 rfl hl (by decide) rfl (fun ls hl => ?_)
    refine lv_iload_n hx hb dJ1_indexOf_4cfef_15 rfl (lv_at hl 3 rfl) ?_
    refine lv_aload_n hx hb dJ1_indexOf_4cfef_16 rfl (lv_at hl 1 rfl) ?_
    refine va_tlen (v := 6) hx hb (h_st_S.1 2 (by decide)).2.2.2 hS (by decide) dJ1_indexOf_4cfef_17 ?_
    refine va_mmin hx hb (by rw [hml]; exact hl.1.symm) hown (hts (.methodLink RJ1 38 Lib.Math.min.name) (List.mem_cons_of_mem _ (List.mem_of_getElem? (i := 8) rfl))) (hts (.static Lib.Math.min.name) (List.mem_cons_of_mem _ (List.mem_of_getElem? (i := 9) rfl))) (hts (.initialized "java/lang/Math") (List.mem_cons_of_mem _ (List.mem_of_getElem? (i := 6) rfl))) (hts (.code Lib.Math.min.name Lib.Math.min.code 2 (some .int)) (List.mem_cons_of_mem _ (List.mem_of_getElem? (i := 10) rfl))) (Nat.le_of_ble_eq_true rfl) (Nat.le_of_ble_eq_true rfl) (Nat.le_of_ble_eq_true rfl) (Nat.le_of_ble_eq_true rfl) dJ1_indexOf_4cfef_18 ?_
    refine lv_topi (fun tv4 etv4 => ?_)
    obtain rfl : tv4 = (6 : Int32) := etv4.trans (by first | rfl | decide)
    refine lv_istore_n (lv' := [(3, .int 6), (2, .int 0), (0, .ref (adV 2)), (1, .int v0)]) hx hb dJ1_indexOf_4cfef_21 rfl hl (by decide) rfl (fun ls hl => ?_)
    refine lv_iload_n hx hb dJ1_indexOf_4cfef_22 rfl (lv_at hl 1 rfl) ?_
    refine lv_iload_n hx hb dJ1_indexOf_4cfef_23 rfl (lv_at hl 0 rfl) ?_
    refine lv_icmp_lt (tgt := 29) hx hb dJ1_indexOf_4cfef_24 (by decide) (fun _ => ?_) (fun c => absurd (by decide) c)
    refine lv_aload_n hx hb dJ1_indexOf_4cfef_29 rfl (lv_at hl 2 rfl) ?_
    refine lv_iload_n hx hb dJ1_indexOf_4cfef_30 rfl (lv_at hl 3 rfl) ?_
    refine lv_iload_n hx hb dJ1_indexOf_4cfef_31 rfl (lv_at hl 1 rfl) ?_
    refine lv_iload_n hx hb dJ1_indexOf_4cfef_32 rfl (lv_at hl 0 rfl) ?_
    have hPc := hP.sub (ws' := []) [] rfl
    have hDc := hD.sub (ws' := []) [] (by decide) rfl
    have hKc := hK.sub (tys' := []) [] rfl
    have hFc := va_free (wc := []) hD hS hA [] rfl
    refine va_calli (va_runS (As := [.ref (adV 2), .int v0, .int 0, .int 6]) (rest := []) ⟨hx, hb, hml, hown, hts⟩ (k_J1_indexOfChar_4cfef l dC dI adK adV v0 ⟨by first | omega | decide, by first | omega | decide⟩ H.size) (va_cwS 4 hts g_J1_indexOf_4cfef_1 rfl rfl rfl (by decide +kernel) ⟨Nat.le_of_ble_eq_true rfl, Nat.le_of_ble_eq_true rfl⟩) ⟨fun a U g mk q => by obtain ⟨q0, q1, qP, qK, qD, n0⟩ := q; exact ⟨q0, q1, qP, va_K.moved (u := U) (U := U.calling g mk a) (Vm.Alike.refl U.vm) qK, qD, vk_S.moved (Vm.Alike.refl _) n0⟩, fun U hU hW => ⟨rfl, by rw [hU], by rw [hU]; exact hPc, va_K.moved hW.alike hKc, hDc.weaken (fun _ _ _ _ => trivial), (by rw [hU]; exact (vk_S.moved hW.alike (vk_S.kept h_st_S hS.2.1)).narrow hFc)⟩⟩ rfl rfl hl.1 rfl (lv_room (Nat.le_of_ble_eq_true rfl)) dJ1_indexOf_4cfef_33 ⟨Nat.le_of_ble_eq_true rfl, Nat.le_of_ble_eq_true rfl⟩) hS (fun q _ h => hFc q h) hFc (fun ra5 u t H1 locs ht hvm hwra5 hB hz1 hk1 hS => ?_)
    try rw [hwra5] at hB
    obtain ⟨pt0_ra5, pt1_ra5, pt2_ra5, hP1, hK1, hD1⟩ := hB
    rw [ht] at hP1
    obtain ⟨hP2, hD2⟩ := va_join (wr := []) (w1 := []) hP hD [] [] rfl rfl (by decide) (by decide) hk1 hFc hP1 hD1
    clear hP hD hPc hDc hKc hFc hP1 hK1 hD1 hk1 hz1
    generalize H1 = H at hP2 hS ⊢
    have hP : va_P (dC, dI) vwCl [] H := hP2
    have hD : va_D A [] := hD2
    clear hP2 hD2
    subst hQ
    have hP9 := hP.sub (ws' := []) [] rfl
    have hD9 := hD.sub (ws' := []) [] (by decide) rfl
    have hK9 := hK.sub (tys' := []) [] rfl
    exact W.iret (v := ra5) hx hb hr (fun t ht hW => ⟨⟨ra5, ra5, rfl, rfl, ⟨by first | omega | decide, by first | omega | decide, by first | assumption | (unfold pm_lt; (repeat' split) <;> first | omega | decide | (exfalso; omega)), by rw [ht]; exact hP9, va_K.moved hW.alike hK9, hD9⟩⟩, hS.F ht⟩) hS.2.2 dJ1_indexOf_4cfef_36
  · skip
    have fc2 : ra1.toInt = 0 := congrArg Int32.toInt c2
    refine lv_iconst (v := (-1)) hx hb dJ1_indexOf_4cfef_7 (by decide) ?_
    subst hQ
    have hP9 := hP.sub (ws' := []) [] rfl
    have hD9 := hD.sub (ws' := []) [] (by decide) rfl
    have hK9 := hK.sub (tys' := []) [] rfl
    exact W.iret (v := (-1)) hx hb hr (fun t ht hW => ⟨⟨(-1), (-1), rfl, rfl, ⟨by first | omega | decide, by first | omega | decide, by first | assumption | (unfold pm_lt; (repeat' split) <;> first | omega | decide | (exfalso; omega)), by rw [ht]; exact hP9, va_K.moved hW.alike hK9, hD9⟩⟩, hS.F ht⟩) hS.2.2 dJ1_indexOf_4cfef_8
def q_J0_indexOf_7cf53 : List Cond := .code yJ0_indexOf_7cf53 cJ0_indexOf_7cf53 3 (some .int) :: (([.code yJ0_isLatin1_aae02 cJ0_isLatin1_aae02 1 (some .boolean), .fieldLink RJ0 38 "java/lang/String" "COMPACT_STRINGS" "Z", .fieldLink RJ0 15 "java/lang/String" "coder" "B", .initialized RJ0, .instanceMethod yJ0_isLatin1_aae02, .selects RJ0 yJ0_isLatin1_aae02 yJ0_isLatin1_aae02, .methodLink RJ0 492 yJ0_isLatin1_aae02, .fieldLink RJ0 9 "java/lang/String" "value" "[B", .code yJ0_length_8abf5 cJ0_length_8abf5 1 (some .int), .code yJ0_coder_7d493 cJ0_coder_7d493 1 (some .byte), .instanceMethod yJ0_coder_7d493, .selects RJ0 yJ0_coder_7d493 yJ0_coder_7d493, .methodLink RJ0 335 yJ0_coder_7d493, .instanceMethod yJ0_length_8abf5, .selects RJ0 yJ0_length_8abf5 yJ0_length_8abf5, .methodLink RJ0 505 yJ0_length_8abf5, .code yJ1_indexOf_4cfef cJ1_indexOf_4cfef 4 (some .int), .code yJ1_canEncode_9a6ad cJ1_canEncode_9a6ad 1 (some .boolean), .initialized RJ1, .static yJ1_canEncode_9a6ad, .methodLink RJ1 88 yJ1_canEncode_9a6ad, .methodLink RJ1 92 Lib.Math.max.name, .static Lib.Math.max.name, .initialized "java/lang/Math", .code Lib.Math.max.name Lib.Math.max.code 2 (some .int), .methodLink RJ1 38 Lib.Math.min.name, .static Lib.Math.min.name, .code Lib.Math.min.name Lib.Math.min.code 2 (some .int), .code yJ1_indexOfChar_4cfef cJ1_indexOfChar_4cfef 6 (some .int), .static yJ1_indexOfChar_4cfef, .methodLink RJ1 95 yJ1_indexOfChar_4cfef, .static yJ1_indexOf_4cfef, .methodLink RJ0 637 yJ1_indexOf_4cfef] : List Cond))
set_option maxRecDepth 20000 in
theorem g_J0_indexOf_7cf53_0 : GoodIn q_J0_indexOf_7cf53 (wsV RJ0 492 RJ0 yJ0_isLatin1_aae02 q_J0_isLatin1_aae02) := goodIn_app (goodIn_r _ [7, 5, 6, 4] rfl (by decide +kernel)) (goodIn_r (.code yJ0_isLatin1_aae02 cJ0_isLatin1_aae02 1 (some .boolean) :: [.fieldLink RJ0 38 "java/lang/String" "COMPACT_STRINGS" "Z", .fieldLink RJ0 15 "java/lang/String" "coder" "B"]) [1, 2, 3] rfl (by decide +kernel))
set_option maxRecDepth 20000 in
theorem g_J0_indexOf_7cf53_1 : GoodIn q_J0_indexOf_7cf53 (wsV RJ0 505 RJ0 yJ0_length_8abf5 q_J0_length_8abf5) := goodIn_app (goodIn_r _ [16, 14, 15, 4] rfl (by decide +kernel)) (goodIn_r (.code yJ0_length_8abf5 cJ0_length_8abf5 1 (some .int) :: [.fieldLink RJ0 9 "java/lang/String" "value" "[B", .code yJ0_coder_7d493 cJ0_coder_7d493 1 (some .byte), .fieldLink RJ0 38 "java/lang/String" "COMPACT_STRINGS" "Z", .fieldLink RJ0 15 "java/lang/String" "coder" "B", .initialized RJ0, .instanceMethod yJ0_coder_7d493, .selects RJ0 yJ0_coder_7d493 yJ0_coder_7d493, .methodLink RJ0 335 yJ0_coder_7d493]) [9, 8, 10, 2, 3, 4, 11, 12, 13] rfl (by decide +kernel))
set_option maxRecDepth 20000 in
theorem g_J0_indexOf_7cf53_2 : GoodIn q_J0_indexOf_7cf53 (va_wsS RJ0 637 yJ1_indexOf_4cfef q_J1_indexOf_4cfef) := goodIn_app (goodIn_r _ [33, 32, 19] rfl (by decide +kernel)) (goodIn_r (.code yJ1_indexOf_4cfef cJ1_indexOf_4cfef 4 (some .int) :: [.code yJ1_canEncode_9a6ad cJ1_canEncode_9a6ad 1 (some .boolean), .initialized RJ1, .static yJ1_canEncode_9a6ad, .methodLink RJ1 88 yJ1_canEncode_9a6ad, .methodLink RJ1 92 Lib.Math.max.name, .static Lib.Math.max.name, .initialized "java/lang/Math", .code Lib.Math.max.name Lib.Math.max.code 2 (some .int), .methodLink RJ1 38 Lib.Math.min.name, .static Lib.Math.min.name, .code Lib.Math.min.name Lib.Math.min.code 2 (some .int), .code yJ1_indexOfChar_4cfef cJ1_indexOfChar_4cfef 6 (some .int), .static yJ1_indexOfChar_4cfef, .methodLink RJ1 95 yJ1_indexOfChar_4cfef]) [17, 18, 19, 20, 21, 22, 23, 24, 25, 26, 27, 28, 29, 30, 31] rfl (by decide +kernel))
set_option maxHeartbeats 4000000 in
set_option maxRecDepth 100000 in
theorem k_J0_indexOf_7cf53 (l : Launch) (dC : Nat → ClassId) (dI : Nat → Nat → Nat) (adK : Nat → Nat) (adV : Nat → Nat) (v0 : Int32) (sz : Nat) : Met l yJ0_indexOf_7cf53 q_J0_indexOf_7cf53 ({ frames := 2, cells := 0, slots := 0, locals := 48 }) (va_Pc [.ref (adK 2), .int v0, .int 0] (fun U => U.heap.size = sz ∧ va_P (dC, dI) vwCl [] U.heap ∧ va_K (dC, dI) vwCl [] U ∧ va_D (fun _ => True) [] ∧ va_Z "java/lang/String" "COMPACT_STRINGS" "Z" (.int 1) (va_A [] sz) U U.heap ∧ vk_S 3 pv_len3 pv_byt3 adK adV (va_A [] sz) U U.heap)) (va_Qi (fun (r : Int32) (r9 : Int32) => r9 = r) (fun (r : Int32) (t : State) => ((-1 ≤ r.toInt) ∧ (r.toInt ≤ 5) ∧ (r.toInt = pm_lt v0.toInt) ∧ va_P (dC, dI) vwCl [] t.heap ∧ va_K (dC, dI) vwCl [] t ∧ va_D (va_A [] sz) [])) (va_A [] sz)) 0 0 (va_A [] sz) := by
  refine pv_ofWF (cc := cJ0_indexOf_7cf53) (maxL := 3) (ret := (some .int)) (by decide +kernel) rfl ?_
  intro p e s m args below meth c s₁ B hml hv
  obtain ⟨rfl, hsz, hP, hK, hD0, h_st_CS, h_st_S⟩ := hv
  have hx := B.exec
  have hb := B.bytes
  have hr := B.returns
  have hts := atoms_spec (ws := q_J0_indexOf_7cf53) B.pre
  have hown : s.vm.findClass RJ0 = some m.cls := findClass_of_methodNamed B.named
  have hlocks := B.notSynchronized
  subst hsz
  have hD := hD0.self (sz := s.heap.size)
  generalize hAe : va_A [] s.heap.size = A at hD h_st_CS h_st_S ⊢
  have hA : ∀ q : Nat, s.heap.size ≤ q → A q := fun q h => by rw [← hAe]; exact Or.inr h
  have hS : va_S A s.heap s.heap [] := va_S.rf
  generalize hQ : (MQ below _ _ s 0 0 A) = Q
  have hl := lv_entry ([.ref (adK 2), .int v0, .int 0]) (n := 3) (Nat.le_of_ble_eq_true rfl)
  rw [lg_entry_eq]
  generalize (lg_sl ([.ref (adK 2), .int v0, .int 0]) ++ List.replicate (3 - (lg_sl ([.ref (adK 2), .int v0, .int 0])).length) Slot.unset).toArray = ls at hl ⊢
  have hl : lv_has ls 3 [(0, .ref (adK 2)), (1, .int v0), (2, .int 0)] := hl
  obtain ⟨H, hH⟩ : ∃ H : Heap, H = s.heap := ⟨_, rfl⟩
  obtain ⟨locs, hlocs⟩ : ∃ y : List Loc, y = [] := ⟨_, rfl⟩
  have hS : va_S A s.heap H locs := by rw [hH, hlocs]; exact va_S.rf
  have hP : va_P (dC, dI) vwCl [] H := by rw [hH]; exact hP
  rw [← hH, ← hlocs]
  refine lv_aload_n hx hb dJ0_indexOf_7cf53_0 rfl (lv_at hl 0 rfl) ?_
  have hPc := hP.sub (ws' := []) [] rfl
  have hDc := hD.sub (ws' := []) [] (by decide) rfl
  have hKc := hK.sub (tys' := []) [] rfl
  have hFc := va_free (wc := []) hD hS hA [] rfl
  refine va_calli (va_runV (As := []) (rest := []) ⟨hx, hb, hml, hown, hts⟩ (k_J0_isLatin1_aae02 l dC dI adK adV  H.size) (cwV 0 hts g_J0_indexOf_7cf53_0 rfl rfl rfl (by decide +kernel) ⟨Nat.le_of_ble_eq_true rfl, Nat.le_of_ble_eq_true rfl⟩) ⟨fun a U g mk q => by obtain ⟨q0, q1, qP, qK, qD, n0, n1⟩ := q; exact ⟨q0, q1, qP, va_K.moved (u := U) (U := U.calling g mk a) (Vm.Alike.refl U.vm) qK, qD, va_Z.moved (Vm.Alike.refl _) n0, vk_S.moved (Vm.Alike.refl _) n1⟩, vk_recv h_st_S (by decide : 2 < 3) hS, fun U hU hW => ⟨rfl, by rw [hU], by rw [hU]; exact hPc, va_K.moved hW.alike hKc, hDc.weaken (fun _ _ _ _ => trivial), (by rw [hU]; exact (va_Z.moved hW.alike (va_Z.kept h_st_CS hS.2.1)).narrow hFc), (by rw [hU]; exact (vk_S.moved hW.alike (vk_S.kept h_st_S hS.2.1)).narrow hFc)⟩⟩ rfl rfl hl.1 rfl (lv_room (Nat.le_of_ble_eq_true rfl)) dJ0_indexOf_7cf53_1 ⟨Nat.le_of_ble_eq_true rfl, Nat.le_of_ble_eq_true rfl⟩) hS (fun q _ h => hFc q h) hFc (fun ra1 u t H1 locs ht hvm hwra1 hB hz1 hk1 hS => ?_)
  obtain ⟨hP1, hK1, hD1⟩ := hB
  rw [ht] at hP1
  obtain ⟨hP2, hD2⟩ := va_join (wr := []) (w1 := []) hP hD [] [] rfl rfl (by decide) (by decide) hk1 hFc hP1 hD1
  clear hP hD hPc hDc hKc hFc hP1 hK1 hD1 hk1 hz1
  generalize H1 = H at hP2 hS ⊢
  have hP : va_P (dC, dI) vwCl [] H := hP2
  have hD : va_D A [] := hD2
  clear hP2 hD2
  obtain ⟨wa_ra1, wb_ra1⟩ := hwra1
  have wa_ra1 : 1 ≤ ra1.toInt := wa_ra1
  have wb_ra1 : ra1.toInt ≤ 1 := wb_ra1
  refine lv_if_eq (tgt := 23) hx hb dJ0_indexOf_7cf53_4 (by decide) (fun c2 => by exfalso; have fc2 : ra1.toInt = 0 := congrArg Int32.toInt c2; omega) (fun _ => ?_)
  refine lv_aload_n hx hb dJ0_indexOf_7cf53_7 rfl (lv_at hl 0 rfl) ?_
  refine vk_getf hx hb (h_st_S.1 2 (by decide)).2.2.1 hS hown (hts (.fieldLink RJ0 9 "java/lang/String" "value" "[B") (List.mem_cons_of_mem _ (List.mem_of_getElem? (i := 7) rfl))) (fun _ h9 => h9) dJ0_indexOf_7cf53_8 ?_
  refine lv_iload_n hx hb dJ0_indexOf_7cf53_11 rfl (lv_at hl 1 rfl) ?_
  refine lv_iload_n hx hb dJ0_indexOf_7cf53_12 rfl (lv_at hl 2 rfl) ?_
  refine lv_aload_n hx hb dJ0_indexOf_7cf53_13 rfl (lv_at hl 0 rfl) ?_
  have hPc := hP.sub (ws' := []) [] rfl
  have hDc := hD.sub (ws' := []) [] (by decide) rfl
  have hKc := hK.sub (tys' := []) [] rfl
  have hFc := va_free (wc := []) hD hS hA [] rfl
  refine va_calli (va_runV (As := []) (rest := [.int 0, .int v0, .ref (adV 2)]) ⟨hx, hb, hml, hown, hts⟩ (k_J0_length_8abf5 l dC dI adK adV  H.size) (cwV 0 hts g_J0_indexOf_7cf53_1 rfl rfl rfl (by decide +kernel) ⟨Nat.le_of_ble_eq_true rfl, Nat.le_of_ble_eq_true rfl⟩) ⟨fun a U g mk q => by obtain ⟨q0, q1, qP, qK, qD, n0, n1⟩ := q; exact ⟨q0, q1, qP, va_K.moved (u := U) (U := U.calling g mk a) (Vm.Alike.refl U.vm) qK, qD, vk_S.moved (Vm.Alike.refl _) n0, va_Z.moved (Vm.Alike.refl _) n1⟩, vk_recv h_st_S (by decide : 2 < 3) hS, fun U hU hW => ⟨rfl, by rw [hU], by rw [hU]; exact hPc, va_K.moved hW.alike hKc, hDc.weaken (fun _ _ _ _ => trivial), (by rw [hU]; exact (vk_S.moved hW.alike (vk_S.kept h_st_S hS.2.1)).narrow hFc), (by rw [hU]; exact (va_Z.moved hW.alike (va_Z.kept h_st_CS hS.2.1)).narrow hFc)⟩⟩ rfl rfl hl.1 rfl (lv_room (Nat.le_of_ble_eq_true rfl)) dJ0_indexOf_7cf53_14 ⟨Nat.le_of_ble_eq_true rfl, Nat.le_of_ble_eq_true rfl⟩) hS (fun q _ h => hFc q h) hFc (fun ra3 u t H1 locs ht hvm hwra3 hB hz1 hk1 hS => ?_)
  obtain ⟨hP1, hK1, hD1⟩ := hB
  rw [ht] at hP1
  obtain ⟨hP2, hD2⟩ := va_join (wr := []) (w1 := []) hP hD [] [] rfl rfl (by decide) (by decide) hk1 hFc hP1 hD1
  clear hP hD hPc hDc hKc hFc hP1 hK1 hD1 hk1 hz1
  generalize H1 = H at hP2 hS ⊢
  have hP : va_P (dC, dI) vwCl [] H := hP2
  have hD : va_D A [] := hD2
  clear hP2 hD2
  obtain ⟨wa_ra3, wb_ra3⟩ := hwra3
  have wa_ra3 : 6 ≤ ra3.toInt := wa_ra3
  have wb_ra3 : ra3.toInt ≤ 6 := wb_ra3
  obtain rfl : ra3 = (6 : Int32) := Int32.toInt_inj.mp (by rw [show ((6 : Int32)).toInt = 6 by decide]; omega)
  have hPc := hP.sub (ws' := []) [] rfl
  have hDc := hD.sub (ws' := []) [] (by decide) rfl
  have hKc := hK.sub (tys' := []) [] rfl
  have hFc := va_free (wc := []) hD hS hA [] rfl
  refine va_calli (va_runS (As := [.ref (adV 2), .int v0, .int 0, .int 6]) (rest := []) ⟨hx, hb, hml, hown, hts⟩ (k_J1_indexOf_4cfef l dC dI adK adV v0  H.size) (va_cwS 4 hts g_J0_indexOf_7cf53_2 rfl rfl rfl (by decide +kernel) ⟨Nat.le_of_ble_eq_true rfl, Nat.le_of_ble_eq_true rfl⟩) ⟨fun a U g mk q => by obtain ⟨q0, q1, qP, qK, qD, n0⟩ := q; exact ⟨q0, q1, qP, va_K.moved (u := U) (U := U.calling g mk a) (Vm.Alike.refl U.vm) qK, qD, vk_S.moved (Vm.Alike.refl _) n0⟩, fun U hU hW => ⟨rfl, by rw [hU], by rw [hU]; exact hPc, va_K.moved hW.alike hKc, hDc.weaken (fun _ _ _ _ => trivial), (by rw [hU]; exact (vk_S.moved hW.alike (vk_S.kept h_st_S hS.2.1)).narrow hFc)⟩⟩ rfl rfl hl.1 rfl (lv_room (Nat.le_of_ble_eq_true rfl)) dJ0_indexOf_7cf53_17 ⟨Nat.le_of_ble_eq_true rfl, Nat.le_of_ble_eq_true rfl⟩) hS (fun q _ h => hFc q h) hFc (fun ra4 u t H1 locs ht hvm hwra4 hB hz1 hk1 hS => ?_)
  try rw [hwra4] at hB
  obtain ⟨pt0_ra4, pt1_ra4, pt2_ra4, hP1, hK1, hD1⟩ := hB
  rw [ht] at hP1
  obtain ⟨hP2, hD2⟩ := va_join (wr := []) (w1 := []) hP hD [] [] rfl rfl (by decide) (by decide) hk1 hFc hP1 hD1
  clear hP hD hPc hDc hKc hFc hP1 hK1 hD1 hk1 hz1
  generalize H1 = H at hP2 hS ⊢
  have hP : va_P (dC, dI) vwCl [] H := hP2
  have hD : va_D A [] := hD2
  clear hP2 hD2
  refine lv_goto (tgt := 36) hx hb dJ0_indexOf_7cf53_20 (by decide) ?_
  subst hQ
  have hP9 := hP.sub (ws' := []) [] rfl
  have hD9 := hD.sub (ws' := []) [] (by decide) rfl
  have hK9 := hK.sub (tys' := []) [] rfl
  exact W.iret (v := ra4) hx hb hr (fun t ht hW => ⟨⟨ra4, ra4, rfl, rfl, ⟨by first | omega | decide, by first | omega | decide, by first | assumption | (unfold pm_lt; (repeat' split) <;> first | omega | decide | (exfalso; omega)), by rw [ht]; exact hP9, va_K.moved hW.alike hK9, hD9⟩⟩, hS.F ht⟩) hS.2.2 dJ0_indexOf_7cf53_36
def q_J0_indexOf_0f7a4 : List Cond := .code yJ0_indexOf_0f7a4 cJ0_indexOf_0f7a4 2 (some .int) :: (([.code yJ0_indexOf_7cf53 cJ0_indexOf_7cf53 3 (some .int), .code yJ0_isLatin1_aae02 cJ0_isLatin1_aae02 1 (some .boolean), .fieldLink RJ0 38 "java/lang/String" "COMPACT_STRINGS" "Z", .fieldLink RJ0 15 "java/lang/String" "coder" "B", .initialized RJ0, .instanceMethod yJ0_isLatin1_aae02, .selects RJ0 yJ0_isLatin1_aae02 yJ0_isLatin1_aae02, .methodLink RJ0 492 yJ0_isLatin1_aae02, .fieldLink RJ0 9 "java/lang/String" "value" "[B", .code yJ0_length_8abf5 cJ0_length_8abf5 1 (some .int), .code yJ0_coder_7d493 cJ0_coder_7d493 1 (some .byte), .instanceMethod yJ0_coder_7d493, .selects RJ0 yJ0_coder_7d493 yJ0_coder_7d493, .methodLink RJ0 335 yJ0_coder_7d493, .instanceMethod yJ0_length_8abf5, .selects RJ0 yJ0_length_8abf5 yJ0_length_8abf5, .methodLink RJ0 505 yJ0_length_8abf5, .code yJ1_indexOf_4cfef cJ1_indexOf_4cfef 4 (some .int), .code yJ1_canEncode_9a6ad cJ1_canEncode_9a6ad 1 (some .boolean), .initialized RJ1, .static yJ1_canEncode_9a6ad, .methodLink RJ1 88 yJ1_canEncode_9a6ad, .methodLink RJ1 92 Lib.Math.max.name, .static Lib.Math.max.name, .initialized "java/lang/Math", .code Lib.Math.max.name Lib.Math.max.code 2 (some .int), .methodLink RJ1 38 Lib.Math.min.name, .static Lib.Math.min.name, .code Lib.Math.min.name Lib.Math.min.code 2 (some .int), .code yJ1_indexOfChar_4cfef cJ1_indexOfChar_4cfef 6 (some .int), .static yJ1_indexOfChar_4cfef, .methodLink RJ1 95 yJ1_indexOfChar_4cfef, .static yJ1_indexOf_4cfef, .methodLink RJ0 637 yJ1_indexOf_4cfef, .instanceMethod yJ0_indexOf_7cf53, .selects RJ0 yJ0_indexOf_7cf53 yJ0_indexOf_7cf53, .methodLink RJ0 633 yJ0_indexOf_7cf53] : List Cond))
set_option maxRecDepth 20000 in
theorem g_J0_indexOf_0f7a4_0 : GoodIn q_J0_indexOf_0f7a4 (wsV RJ0 633 RJ0 yJ0_indexOf_7cf53 q_J0_indexOf_7cf53) := goodIn_app (goodIn_r _ [37, 35, 36, 5] rfl (by decide +kernel)) (goodIn_r (.code yJ0_indexOf_7cf53 cJ0_indexOf_7cf53 3 (some .int) :: [.code yJ0_isLatin1_aae02 cJ0_isLatin1_aae02 1 (some .boolean), .fieldLink RJ0 38 "java/lang/String" "COMPACT_STRINGS" "Z", .fieldLink RJ0 15 "java/lang/String" "coder" "B", .initialized RJ0, .instanceMethod yJ0_isLatin1_aae02, .selects RJ0 yJ0_isLatin1_aae02 yJ0_isLatin1_aae02, .methodLink RJ0 492 yJ0_isLatin1_aae02, .fieldLink RJ0 9 "java/lang/String" "value" "[B", .code yJ0_length_8abf5 cJ0_length_8abf5 1 (some .int), .code yJ0_coder_7d493 cJ0_coder_7d493 1 (some .byte), .instanceMethod yJ0_coder_7d493, .selects RJ0 yJ0_coder_7d493 yJ0_coder_7d493, .methodLink RJ0 335 yJ0_coder_7d493, .instanceMethod yJ0_length_8abf5, .selects RJ0 yJ0_length_8abf5 yJ0_length_8abf5, .methodLink RJ0 505 yJ0_length_8abf5, .code yJ1_indexOf_4cfef cJ1_indexOf_4cfef 4 (some .int), .code yJ1_canEncode_9a6ad cJ1_canEncode_9a6ad 1 (some .boolean), .initialized RJ1, .static yJ1_canEncode_9a6ad, .methodLink RJ1 88 yJ1_canEncode_9a6ad, .methodLink RJ1 92 Lib.Math.max.name, .static Lib.Math.max.name, .initialized "java/lang/Math", .code Lib.Math.max.name Lib.Math.max.code 2 (some .int), .methodLink RJ1 38 Lib.Math.min.name, .static Lib.Math.min.name, .code Lib.Math.min.name Lib.Math.min.code 2 (some .int), .code yJ1_indexOfChar_4cfef cJ1_indexOfChar_4cfef 6 (some .int), .static yJ1_indexOfChar_4cfef, .methodLink RJ1 95 yJ1_indexOfChar_4cfef, .static yJ1_indexOf_4cfef, .methodLink RJ0 637 yJ1_indexOf_4cfef]) [1, 2, 3, 4, 5, 6, 7, 8, 9, 10, 11, 12, 13, 14, 15, 16, 17, 18, 19, 20, 21, 22, 23, 24, 25, 26, 27, 28, 29, 30, 31, 32, 33, 34] rfl (by decide +kernel))
set_option maxHeartbeats 4000000 in
set_option maxRecDepth 100000 in
theorem k_J0_indexOf_0f7a4 (l : Launch) (dC : Nat → ClassId) (dI : Nat → Nat → Nat) (adK : Nat → Nat) (adV : Nat → Nat) (v0 : Int32) (sz : Nat) : Met l yJ0_indexOf_0f7a4 q_J0_indexOf_0f7a4 ({ frames := 3, cells := 0, slots := 0, locals := 70 }) (va_Pc [.ref (adK 2), .int v0] (fun U => U.heap.size = sz ∧ va_P (dC, dI) vwCl [] U.heap ∧ va_K (dC, dI) vwCl [] U ∧ va_D (fun _ => True) [] ∧ va_Z "java/lang/String" "COMPACT_STRINGS" "Z" (.int 1) (va_A [] sz) U U.heap ∧ vk_S 3 pv_len3 pv_byt3 adK adV (va_A [] sz) U U.heap)) (va_Qi (fun (r : Int32) (r9 : Int32) => r9 = r) (fun (r : Int32) (t : State) => ((-1 ≤ r.toInt) ∧ (r.toInt ≤ 5) ∧ (r.toInt = pm_lt v0.toInt) ∧ va_P (dC, dI) vwCl [] t.heap ∧ va_K (dC, dI) vwCl [] t ∧ va_D (va_A [] sz) [])) (va_A [] sz)) 0 0 (va_A [] sz) := by
  refine pv_ofWF (cc := cJ0_indexOf_0f7a4) (maxL := 2) (ret := (some .int)) (by decide +kernel) rfl ?_
  intro p e s m args below meth c s₁ B hml hv
  obtain ⟨rfl, hsz, hP, hK, hD0, h_st_CS, h_st_S⟩ := hv
  have hx := B.exec
  have hb := B.bytes
  have hr := B.returns
  have hts := atoms_spec (ws := q_J0_indexOf_0f7a4) B.pre
  have hown : s.vm.findClass RJ0 = some m.cls := findClass_of_methodNamed B.named
  have hlocks := B.notSynchronized
  subst hsz
  have hD := hD0.self (sz := s.heap.size)
  generalize hAe : va_A [] s.heap.size = A at hD h_st_CS h_st_S ⊢
  have hA : ∀ q : Nat, s.heap.size ≤ q → A q := fun q h => by rw [← hAe]; exact Or.inr h
  have hS : va_S A s.heap s.heap [] := va_S.rf
  generalize hQ : (MQ below _ _ s 0 0 A) = Q
  have hl := lv_entry ([.ref (adK 2), .int v0]) (n := 2) (Nat.le_of_ble_eq_true rfl)
  rw [lg_entry_eq]
  generalize (lg_sl ([.ref (adK 2), .int v0]) ++ List.replicate (2 - (lg_sl ([.ref (adK 2), .int v0])).length) Slot.unset).toArray = ls at hl ⊢
  have hl : lv_has ls 2 [(0, .ref (adK 2)), (1, .int v0)] := hl
  obtain ⟨H, hH⟩ : ∃ H : Heap, H = s.heap := ⟨_, rfl⟩
  obtain ⟨locs, hlocs⟩ : ∃ y : List Loc, y = [] := ⟨_, rfl⟩
  have hS : va_S A s.heap H locs := by rw [hH, hlocs]; exact va_S.rf
  have hP : va_P (dC, dI) vwCl [] H := by rw [hH]; exact hP
  rw [← hH, ← hlocs]
  refine lv_aload_n hx hb dJ0_indexOf_0f7a4_0 rfl (lv_at hl 0 rfl) ?_
  refine lv_iload_n hx hb dJ0_indexOf_0f7a4_1 rfl (lv_at hl 1 rfl) ?_
  refine lv_iconst (v := 0) hx hb dJ0_indexOf_0f7a4_2 (by decide) ?_
  have hPc := hP.sub (ws' := []) [] rfl
  have hDc := hD.sub (ws' := []) [] (by decide) rfl
  have hKc := hK.sub (tys' := []) [] rfl
  have hFc := va_free (wc := []) hD hS hA [] rfl
  refine va_calli (va_runV (As := [.int v0, .int 0]) (rest := []) ⟨hx, hb, hml, hown, hts⟩ (k_J0_indexOf_7cf53 l dC dI adK adV v0  H.size) (cwV 2 hts g_J0_indexOf_0f7a4_0 rfl rfl rfl (by decide +kernel) ⟨Nat.le_of_ble_eq_true rfl, Nat.le_of_ble_eq_true rfl⟩) ⟨fun a U g mk q => by obtain ⟨q0, q1, qP, qK, qD, n0, n1⟩ := q; exact ⟨q0, q1, qP, va_K.moved (u := U) (U := U.calling g mk a) (Vm.Alike.refl U.vm) qK, qD, va_Z.moved (Vm.Alike.refl _) n0, vk_S.moved (Vm.Alike.refl _) n1⟩, vk_recv h_st_S (by decide : 2 < 3) hS, fun U hU hW => ⟨rfl, by rw [hU], by rw [hU]; exact hPc, va_K.moved hW.alike hKc, hDc.weaken (fun _ _ _ _ => trivial), (by rw [hU]; exact (va_Z.moved hW.alike (va_Z.kept h_st_CS hS.2.1)).narrow hFc), (by rw [hU]; exact (vk_S.moved hW.alike (vk_S.kept h_st_S hS.2.1)).narrow hFc)⟩⟩ rfl rfl hl.1 rfl (lv_room (Nat.le_of_ble_eq_true rfl)) dJ0_indexOf_0f7a4_3 ⟨Nat.le_of_ble_eq_true rfl, Nat.le_of_ble_eq_true rfl⟩) hS (fun q _ h => hFc q h) hFc (fun ra1 u t H1 locs ht hvm hwra1 hB hz1 hk1 hS => ?_)
  try rw [hwra1] at hB
  obtain ⟨pt0_ra1, pt1_ra1, pt2_ra1, hP1, hK1, hD1⟩ := hB
  rw [ht] at hP1
  obtain ⟨hP2, hD2⟩ := va_join (wr := []) (w1 := []) hP hD [] [] rfl rfl (by decide) (by decide) hk1 hFc hP1 hD1
  clear hP hD hPc hDc hKc hFc hP1 hK1 hD1 hk1 hz1
  generalize H1 = H at hP2 hS ⊢
  have hP : va_P (dC, dI) vwCl [] H := hP2
  have hD : va_D A [] := hD2
  clear hP2 hD2
  subst hQ
  have hP9 := hP.sub (ws' := []) [] rfl
  have hD9 := hD.sub (ws' := []) [] (by decide) rfl
  have hK9 := hK.sub (tys' := []) [] rfl
  exact W.iret (v := ra1) hx hb hr (fun t ht hW => ⟨⟨ra1, ra1, rfl, rfl, ⟨by first | omega | decide, by first | omega | decide, by first | assumption | (unfold pm_lt; (repeat' split) <;> first | omega | decide | (exfalso; omega)), by rw [ht]; exact hP9, va_K.moved hW.alike hK9, hD9⟩⟩, hS.F ht⟩) hS.2.2 dJ0_indexOf_0f7a4_6
def q_X10_takeNumber : List Cond := .code yX10_takeNumber cX10_takeNumber 3 (some .boolean) :: (([.code yX10_next cX10_next 1 (some .int), .fieldLink RX10 19 "LeftArguments$Tape" "at" "I", .fieldLink RX10 15 "LeftArguments$Tape" "used" "I", .fieldLink RX10 9 "LeftArguments$Tape" "bytes" "[I", .initialized RX10, .instanceMethod yX10_next, .selects RX10 yX10_next yX10_next, .methodLink RX10 37 yX10_next, .code yX10_isDigit cX10_isDigit 1 (some .boolean), .static yX10_isDigit, .methodLink RX10 45 yX10_isDigit, .code yX10_wrongHere cX10_wrongHere 1 (some .boolean), .fieldLink RX10 22 "LeftArguments$Tape" "wrongAt" "I", .instanceMethod yX10_wrongHere, .selects RX10 yX10_wrongHere yX10_wrongHere, .methodLink RX10 41 yX10_wrongHere, .fieldLink RX10 25 "LeftArguments$Tape" "number" "I", .code yX10_sign cX10_sign 1 (some .int), .instanceMethod yX10_sign, .selects RX10 yX10_sign yX10_sign, .methodLink RX10 49 yX10_sign] : List Cond) ++ wsX100)
set_option maxRecDepth 20000 in
theorem g_X10_takeNumber_0 : GoodIn q_X10_takeNumber (wsV RX10 37 RX10 yX10_next q_X10_next) := goodIn_app (goodIn_r _ [8, 6, 7, 5] rfl (by decide +kernel)) (goodIn_ca (goodIn_r (.code yX10_next cX10_next 1 (some .int) :: [.fieldLink RX10 19 "LeftArguments$Tape" "at" "I", .fieldLink RX10 15 "LeftArguments$Tape" "used" "I", .fieldLink RX10 9 "LeftArguments$Tape" "bytes" "[I"]) [1, 2, 3, 4] rfl (by decide +kernel)) (goodIn_sub (fun _ h => List.mem_cons_of_mem _ (List.mem_append_right _ h)) gwX10))
set_option maxRecDepth 20000 in
theorem g_X10_takeNumber_1 : GoodIn q_X10_takeNumber (va_wsS RX10 45 yX10_isDigit q_X10_isDigit) := goodIn_app (goodIn_r _ [11, 10, 5] rfl (by decide +kernel)) (goodIn_r (.code yX10_isDigit cX10_isDigit 1 (some .boolean) :: []) [9] rfl (by decide +kernel))
set_option maxRecDepth 20000 in
theorem g_X10_takeNumber_2 : GoodIn q_X10_takeNumber (wsV RX10 41 RX10 yX10_wrongHere q_X10_wrongHere) := goodIn_app (goodIn_r _ [16, 14, 15, 5] rfl (by decide +kernel)) (goodIn_ca (goodIn_r (.code yX10_wrongHere cX10_wrongHere 1 (some .boolean) :: [.fieldLink RX10 19 "LeftArguments$Tape" "at" "I", .fieldLink RX10 22 "LeftArguments$Tape" "wrongAt" "I"]) [12, 2, 13] rfl (by decide +kernel)) (goodIn_sub (fun _ h => List.mem_cons_of_mem _ (List.mem_append_right _ h)) gwX10))
set_option maxRecDepth 20000 in
theorem g_X10_takeNumber_4 : GoodIn q_X10_takeNumber (wsV RX10 49 RX10 yX10_sign q_X10_sign) := goodIn_app (goodIn_r _ [21, 19, 20, 5] rfl (by decide +kernel)) (goodIn_ca (goodIn_r (.code yX10_sign cX10_sign 1 (some .int) :: [.fieldLink RX10 19 "LeftArguments$Tape" "at" "I", .fieldLink RX10 15 "LeftArguments$Tape" "used" "I", .fieldLink RX10 9 "LeftArguments$Tape" "bytes" "[I"]) [18, 2, 3, 4] rfl (by decide +kernel)) (goodIn_sub (fun _ h => List.mem_cons_of_mem _ (List.mem_append_right _ h)) gwX10))
set_option maxHeartbeats 4000000 in
set_option maxRecDepth 100000 in
theorem k_X10_takeNumber (l : Launch) (dC : Nat → ClassId) (dI : Nat → Nat → Nat) (h0 : Nat) (h1 : Nat) (v0 : Int32) (v1 : Int32) (v2 : Int32) (v3 : Int32) (g0 : ClassId) (f4 : Nat → Int32) (i_v0 : 0 ≤ v0.toInt ∧ v0.toInt ≤ 240) (i_v1 : 0 ≤ v1.toInt ∧ v1.toInt ≤ 240) (ia_f4 : (∀ j, 0 ≤ (f4 j).toInt ∧ (f4 j).toInt ≤ 255)) (sz : Nat) : Met l yX10_takeNumber q_X10_takeNumber ({ frames := 1, cells := 0, slots := 0, locals := 20 }) (va_Pc [.ref h0, .int 4] (fun U => U.heap.size = sz ∧ va_P (dC, dI) vwCl (wd_82cdd16b h0 h1 v0 v1 v2 v3 h1 g0 f4) U.heap ∧ va_K (dC, dI) vwCl [(g0, .int)] U ∧ va_D (fun _ => True) (wd_82cdd16b h0 h1 v0 v1 v2 v3 h1 g0 f4))) (va_Qi (fun (r : Int32) (r9 : Int32) => r9 = r) (fun (r : Int32) (t : State) => (∃ (o_h0_2 : Int32) (o_h0_4 : Int32), 0 ≤ o_h0_2.toInt ∧ o_h0_2.toInt ≤ 240 ∧ -53328 ≤ o_h0_4.toInt ∧ o_h0_4.toInt ≤ 229977 ∧ (1 ≤ r.toInt) ∧ (r.toInt ≤ 1) ∧ (v1.toInt ≤ o_h0_2.toInt) ∧ (pg_nm f4 v0.toInt 4 (pg_s f4 v0.toInt v1.toInt) = (true, o_h0_2.toInt)) ∧ va_P (dC, dI) vwCl (wd_82cdd16b h0 h1 v0 o_h0_2 v2 o_h0_4 h1 g0 f4) t.heap ∧ va_K (dC, dI) vwCl [] t ∧ va_D (va_A (wd_82cdd16b h0 h1 v0 v1 v2 v3 h1 g0 f4) sz) (wd_82cdd16b h0 h1 v0 o_h0_2 v2 o_h0_4 h1 g0 f4)) ∨ (∃ (o_h0_2 : Int32) (o_h0_3 : Int32) (o_h0_4 : Int32), 0 ≤ o_h0_2.toInt ∧ o_h0_2.toInt ≤ 240 ∧ 0 ≤ o_h0_3.toInt ∧ o_h0_3.toInt ≤ 240 ∧ (0 ≤ r.toInt) ∧ (r.toInt ≤ 0) ∧ (v1.toInt ≤ o_h0_2.toInt) ∧ ((¬ (48 ≤ pg_ch f4 v0.toInt (pg_s f4 v0.toInt v1.toInt) ∧ pg_ch f4 v0.toInt (pg_s f4 v0.toInt v1.toInt) ≤ 57) ∧ o_h0_3.toInt = pg_s f4 v0.toInt v1.toInt) ∨ pg_nm f4 v0.toInt 4 (pg_s f4 v0.toInt v1.toInt) = (false, o_h0_3.toInt)) ∧ va_P (dC, dI) vwCl (wd_82cdd16b h0 h1 v0 o_h0_2 o_h0_3 o_h0_4 h1 g0 f4) t.heap ∧ va_K (dC, dI) vwCl [] t ∧ va_D (va_A (wd_82cdd16b h0 h1 v0 v1 v2 v3 h1 g0 f4) sz) (wd_82cdd16b h0 h1 v0 o_h0_2 o_h0_3 o_h0_4 h1 g0 f4))) (va_A (wd_82cdd16b h0 h1 v0 v1 v2 v3 h1 g0 f4) sz)) 0 0 (va_A (wd_82cdd16b h0 h1 v0 v1 v2 v3 h1 g0 f4) sz) := by
  refine Met.ofW (cc := cX10_takeNumber) (maxL := 3) (ret := (some .boolean)) (by decide) rfl ?_
  intro p e s m args below meth c s₁ B hml hv
  obtain ⟨i_v0a, i_v0b⟩ := i_v0
  obtain ⟨i_v1a, i_v1b⟩ := i_v1
  obtain ⟨rfl, hsz, hP, hK, hD0⟩ := hv
  have hx := B.exec
  have hb := B.bytes
  have hr := B.returns
  have hts := atoms_spec (ws := q_X10_takeNumber) B.pre
  have hown : s.vm.findClass RX10 = some m.cls := findClass_of_methodNamed B.named
  have hlocks := B.notSynchronized
  subst hsz
  have hD := hD0.self (sz := s.heap.size)
  generalize hAe : va_A (wd_82cdd16b h0 h1 v0 v1 v2 v3 h1 g0 f4) s.heap.size = A at hD ⊢
  have hA : ∀ q : Nat, s.heap.size ≤ q → A q := fun q h => by rw [← hAe]; exact Or.inr h
  have hS : va_S A s.heap s.heap [] := va_S.rf
  generalize hQ : (MQ below _ _ s 0 0 A) = Q
  have hl := lv_entry ([.ref h0, .int 4]) (n := 3) (Nat.le_of_ble_eq_true rfl)
  rw [lg_entry_eq]
  generalize (lg_sl ([.ref h0, .int 4]) ++ List.replicate (3 - (lg_sl ([.ref h0, .int 4])).length) Slot.unset).toArray = ls at hl ⊢
  have hl : lv_has ls 3 [(0, .ref h0), (1, .int 4)] := hl
  obtain ⟨H, hH⟩ : ∃ H : Heap, H = s.heap := ⟨_, rfl⟩
  obtain ⟨locs, hlocs⟩ : ∃ y : List Loc, y = [] := ⟨_, rfl⟩
  have hS : va_S A s.heap H locs := by rw [hH, hlocs]; exact va_S.rf
  have hP : va_P (dC, dI) vwCl (wd_82cdd16b h0 h1 v0 v1 v2 v3 h1 g0 f4) H := by rw [hH]; exact hP
  rw [← hH, ← hlocs]
  refine lv_aload_n hx hb dX10_takeNumber_0 rfl (lv_at hl 0 rfl) ?_
  have hPc := hP.sub (ws' := (wd_82cdd16b h0 h1 v0 v1 v2 v3 h1 g0 f4)) [0, 1] rfl
  have hDc := hD.sub (ws' := (wd_82cdd16b h0 h1 v0 v1 v2 v3 h1 g0 f4)) [0, 1] (by decide) rfl
  have hKc := hK.sub (tys' := [(g0, .int)]) [0] rfl
  have hFc := va_free (wc := (wd_82cdd16b h0 h1 v0 v1 v2 v3 h1 g0 f4)) hD hS hA [0, 1] rfl
  refine va_calli (va_runV (As := []) (rest := []) ⟨hx, hb, hml, hown, hts⟩ (k_X10_next l dC dI h0 h1 v0 v1 v2 v3 g0 f4 ⟨i_v0a, i_v0b⟩ ⟨i_v1a, i_v1b⟩ ia_f4 H.size) (cwV 0 hts g_X10_takeNumber_0 rfl rfl rfl (by decide +kernel) ⟨Nat.le_of_ble_eq_true rfl, Nat.le_of_ble_eq_true rfl⟩) (pv_PV10 hPc hKc hDc (q0 := 0) rfl) rfl rfl hl.1 rfl (lv_room (Nat.le_of_ble_eq_true rfl)) dX10_takeNumber_1 ⟨Nat.le_of_ble_eq_true rfl, Nat.le_of_ble_eq_true rfl⟩) hS (fun q _ h => hFc q h) hFc (fun ra1 u t H1 locs ht hvm hwra1 hB hz1 hk1 hS => ?_)
  try rw [hwra1] at hB
  rcases hB with hB | hB
  · skip
    obtain ⟨x2, oa_x2, ob_x2, pt0_ra1, pt1_ra1, pt2_ra1, pt3_ra1, pt4_ra1, pt5_ra1, pt6_ra1, hP1, hK1, hD1⟩ := hB
    rw [ht] at hP1
    obtain ⟨hP2, hD2⟩ := va_join (wr := []) (w1 := (wd_82cdd16b h0 h1 v0 x2 v2 v3 h1 g0 f4)) hP hD [0, 1] [] rfl rfl (by decide) (by decide) hk1 hFc hP1 hD1
    clear hP hD hPc hDc hKc hFc hP1 hK1 hD1 hk1 hz1
    generalize H1 = H at hP2 hS ⊢
    have hP : va_P (dC, dI) vwCl (wd_82cdd16b h0 h1 v0 x2 v2 v3 h1 g0 f4) H := hP2
    have hD : va_D A (wd_82cdd16b h0 h1 v0 x2 v2 v3 h1 g0 f4) := hD2
    clear hP2 hD2
    obtain rfl : ra1 = ((-1) : Int32) := pv_cs (by decide) pt0_ra1 pt1_ra1
    have hPc := hP.sub (ws' := []) [] rfl
    have hDc := hD.sub (ws' := []) [] (by decide) rfl
    have hKc := hK.sub (tys' := []) [] rfl
    have hFc := va_free (wc := []) hD hS hA [] rfl
    refine va_calli (va_runS (As := [.int (-1)]) (rest := []) ⟨hx, hb, hml, hown, hts⟩ (k_X10_isDigit l dC dI ((-1))  H.size) (va_cwS 1 hts g_X10_takeNumber_1 rfl rfl rfl (by decide +kernel) ⟨Nat.le_of_ble_eq_true rfl, Nat.le_of_ble_eq_true rfl⟩) (pv_PS hPc hKc hDc) rfl rfl hl.1 rfl (lv_room (Nat.le_of_ble_eq_true rfl)) dX10_takeNumber_4 ⟨Nat.le_of_ble_eq_true rfl, Nat.le_of_ble_eq_true rfl⟩) hS (fun q _ h => hFc q h) hFc (fun ra3 u t H1 locs ht hvm hwra3 hB hz1 hk1 hS => ?_)
    try rw [hwra3] at hB
    have hkra3_0 : (((-1) : Int32)).toInt = -1 := by decide
    obtain ⟨pt0_ra3, pt1_ra3, pt2_ra3, pt3_ra3, pt4_ra3, hP1, hK1, hD1⟩ := hB
    rw [ht] at hP1
    obtain ⟨hP2, hD2⟩ := va_join (wr := (wd_82cdd16b h0 h1 v0 x2 v2 v3 h1 g0 f4)) (w1 := []) hP hD [] [0, 1] rfl rfl (by decide) (by decide) hk1 hFc hP1 hD1
    clear hP hD hPc hDc hKc hFc hP1 hK1 hD1 hk1 hz1
    generalize H1 = H at hP2 hS ⊢
    have hP : va_P (dC, dI) vwCl (wd_82cdd16b h0 h1 v0 x2 v2 v3 h1 g0 f4) H := hP2
    have hD : va_D A (wd_82cdd16b h0 h1 v0 x2 v2 v3 h1 g0 f4) := hD2
    clear hP2 hD2
    refine lv_if_ne (tgt := 15) hx hb dX10_takeNumber_7 (by decide) (fun c4 => ?_) (fun c4 => ?_)
    · skip
      have fc4 : ¬ (ra3.toInt = 0) := fun h9 => c4 (Int32.toInt_inj.mp h9)
      exfalso; omega
    · skip
      have fc4 : ra3.toInt = 0 := congrArg Int32.toInt c4
      refine lv_aload_n hx hb dX10_takeNumber_10 rfl (lv_at hl 0 rfl) ?_
      have hPc := hP.sub (ws' := (wd_09b0abee h0 h1 v0 x2 v2 v3)) [0] rfl
      have hDc := hD.sub (ws' := (wd_09b0abee h0 h1 v0 x2 v2 v3)) [0] (by decide) rfl
      have hKc := hK.sub (tys' := []) [] rfl
      have hFc := va_free (wc := (wd_09b0abee h0 h1 v0 x2 v2 v3)) hD hS hA [0] rfl
      refine va_calli (va_runV (As := []) (rest := []) ⟨hx, hb, hml, hown, hts⟩ (k_X10_wrongHere l dC dI h0 h1 v0 x2 v2 v3 ⟨i_v0a, i_v0b⟩ ⟨oa_x2, ob_x2⟩ H.size) (cwV 0 hts g_X10_takeNumber_2 rfl rfl rfl (by decide +kernel) ⟨Nat.le_of_ble_eq_true rfl, Nat.le_of_ble_eq_true rfl⟩) (pv_PV10 hPc hKc hDc (q0 := 0) rfl) rfl rfl hl.1 rfl (lv_room (Nat.le_of_ble_eq_true rfl)) dX10_takeNumber_11 ⟨Nat.le_of_ble_eq_true rfl, Nat.le_of_ble_eq_true rfl⟩) hS (fun q _ h => hFc q h) hFc (fun ra5 u t H1 locs ht hvm hwra5 hB hz1 hk1 hS => ?_)
      try rw [hwra5] at hB
      obtain ⟨x6, oa_x6, ob_x6, pt0_ra5, pt1_ra5, pt2_ra5, hP1, hK1, hD1⟩ := hB
      rw [ht] at hP1
      obtain ⟨hP2, hD2⟩ := va_join (wr := (wd_d0032b31 h1 g0 f4)) (w1 := (wd_09b0abee h0 h1 v0 x2 x6 v3)) hP hD [0] [1] rfl rfl (by decide) (by decide) hk1 hFc hP1 hD1
      clear hP hD hPc hDc hKc hFc hP1 hK1 hD1 hk1 hz1
      generalize H1 = H at hP2 hS ⊢
      have hP := hP2.sub (ws' := (wd_82cdd16b h0 h1 v0 x2 x6 v3 h1 g0 f4)) [1, 0] rfl
      have hD := hD2.sub (ws' := (wd_82cdd16b h0 h1 v0 x2 x6 v3 h1 g0 f4)) [1, 0] (by decide) rfl
      clear hP2 hD2
      obtain rfl : ra5 = (0 : Int32) := pv_cs (by decide) pt0_ra5 pt1_ra5
      subst hQ
      have hP9 := hP.sub (ws' := (wd_82cdd16b h0 h1 v0 x2 x6 v3 h1 g0 f4)) [0, 1] rfl
      have hD9 := hD.sub (ws' := (wd_82cdd16b h0 h1 v0 x2 x6 v3 h1 g0 f4)) [0, 1] (by decide) rfl
      have hK9 := hK.sub (tys' := []) [] rfl
      exact W.zret (v := 0) hx hb hr rfl (fun t ht hW => ⟨⟨0, 0, rfl, rfl, Or.inr (⟨x2, x6, v3, oa_x2, ob_x2, oa_x6, ob_x6, by first | omega | decide, by first | omega | decide, by omega, by first | exact Or.inr (hnm.trans (pg_nm.over (by omega) (by omega) (by omega))) | (apply pg_nm.nn <;> first | assumption | omega) | (exfalso; omega), by rw [ht]; exact hP9, va_K.moved hW.alike hK9, hD9⟩)⟩, hS.F ht⟩) hS.2.2 dX10_takeNumber_14
  · skip
    obtain ⟨x7, oa_x7, ob_x7, pt0_ra1, pt1_ra1, pt2_ra1, pt3_ra1, pt4_ra1, pt5_ra1, pt6_ra1, hP1, hK1, hD1⟩ := hB
    rw [ht] at hP1
    obtain ⟨hP2, hD2⟩ := va_join (wr := []) (w1 := (wd_82cdd16b h0 h1 v0 x7 v2 v3 h1 g0 f4)) hP hD [0, 1] [] rfl rfl (by decide) (by decide) hk1 hFc hP1 hD1
    clear hP hD hPc hDc hKc hFc hP1 hK1 hD1 hk1 hz1
    generalize H1 = H at hP2 hS ⊢
    have hP : va_P (dC, dI) vwCl (wd_82cdd16b h0 h1 v0 x7 v2 v3 h1 g0 f4) H := hP2
    have hD : va_D A (wd_82cdd16b h0 h1 v0 x7 v2 v3 h1 g0 f4) := hD2
    clear hP2 hD2
    have hPc := hP.sub (ws' := []) [] rfl
    have hDc := hD.sub (ws' := []) [] (by decide) rfl
    have hKc := hK.sub (tys' := []) [] rfl
    have hFc := va_free (wc := []) hD hS hA [] rfl
    refine va_calli (va_runS (As := [.int ra1]) (rest := []) ⟨hx, hb, hml, hown, hts⟩ (k_X10_isDigit l dC dI ra1  H.size) (va_cwS 1 hts g_X10_takeNumber_1 rfl rfl rfl (by decide +kernel) ⟨Nat.le_of_ble_eq_true rfl, Nat.le_of_ble_eq_true rfl⟩) (pv_PS hPc hKc hDc) rfl rfl hl.1 rfl (lv_room (Nat.le_of_ble_eq_true rfl)) dX10_takeNumber_4 ⟨Nat.le_of_ble_eq_true rfl, Nat.le_of_ble_eq_true rfl⟩) hS (fun q _ h => hFc q h) hFc (fun ra8 u t H1 locs ht hvm hwra8 hB hz1 hk1 hS => ?_)
    try rw [hwra8] at hB
    obtain ⟨pt0_ra8, pt1_ra8, pt2_ra8, pt3_ra8, pt4_ra8, hP1, hK1, hD1⟩ := hB
    rw [ht] at hP1
    obtain ⟨hP2, hD2⟩ := va_join (wr := (wd_82cdd16b h0 h1 v0 x7 v2 v3 h1 g0 f4)) (w1 := []) hP hD [] [0, 1] rfl rfl (by decide) (by decide) hk1 hFc hP1 hD1
    clear hP hD hPc hDc hKc hFc hP1 hK1 hD1 hk1 hz1
    generalize H1 = H at hP2 hS ⊢
    have hP : va_P (dC, dI) vwCl (wd_82cdd16b h0 h1 v0 x7 v2 v3 h1 g0 f4) H := hP2
    have hD : va_D A (wd_82cdd16b h0 h1 v0 x7 v2 v3 h1 g0 f4) := hD2
    clear hP2 hD2
    refine lv_if_ne (tgt := 15) hx hb dX10_takeNumber_7 (by decide) (fun c9 => ?_) (fun c9 => ?_)
    · skip
      have fc9 : ¬ (ra8.toInt = 0) := fun h9 => c9 (Int32.toInt_inj.mp h9)
      refine lv_aload_n hx hb dX10_takeNumber_15 rfl (lv_at hl 0 rfl) ?_
      refine lv_iconst (v := 0) hx hb dX10_takeNumber_16 (by decide) ?_
      refine va_put (D := (dC, dI)) (ci := 10) (v := .int 0) (ty := .int) (C := RX10) (T := TX10) (N := 5) hx hb hts (fun _ h => List.mem_cons_of_mem _ (List.mem_append_right _ h)) tyX10 tyX10_ok nmX10 hown hK hP hD hS 0 rfl rfl 4 (by decide) (hts (.fieldLink RX10 25 "LeftArguments$Tape" "number" "I") (List.mem_cons_of_mem _ (List.mem_append_left _ (List.mem_of_getElem? (i := 16) rfl)))) (fun _ h9 => h9) rfl (by decide +kernel) rfl rfl (Nat.le_of_ble_eq_true rfl) dX10_takeNumber_17 (fun H locs hP hD hS => ?_)
      have hP : va_P (dC, dI) vwCl (wd_82cdd16b h0 h1 v0 x7 v2 0 h1 g0 f4) H := hP
      have hD : va_D A (wd_82cdd16b h0 h1 v0 x7 v2 0 h1 g0 f4) := hD
      refine lv_iconst (v := 0) hx hb dX10_takeNumber_20 (by decide) ?_
      refine lv_istore_n (lv' := [(2, .int 0), (0, .ref h0), (1, .int 4)]) hx hb dX10_takeNumber_21 rfl hl (by decide) rfl (fun ls hl => ?_)
      have hnm : pg_nm f4 v0.toInt 4 (pg_s f4 v0.toInt v1.toInt) = pg_nm f4 v0.toInt 4 x7.toInt := by rw [show pg_s f4 v0.toInt v1.toInt = x7.toInt by assumption]
      refine lv_iload_n hx hb dX10_takeNumber_22 rfl (lv_at hl 0 rfl) ?_
      refine lv_iload_n hx hb dX10_takeNumber_23 rfl (lv_at hl 2 rfl) ?_
      refine lv_icmp_ge (tgt := 72) hx hb dX10_takeNumber_24 (by decide) (fun c => absurd c (by decide)) (fun _ => ?_)
      refine lv_aload_n hx hb dX10_takeNumber_27 rfl (lv_at hl 1 rfl) ?_
      have hPc := hP.sub (ws' := (wd_82cdd16b h0 h1 v0 x7 v2 0 h1 g0 f4)) [0, 1] rfl
      have hDc := hD.sub (ws' := (wd_82cdd16b h0 h1 v0 x7 v2 0 h1 g0 f4)) [0, 1] (by decide) rfl
      have hKc := hK.sub (tys' := [(g0, .int)]) [0] rfl
      have hFc := va_free (wc := (wd_82cdd16b h0 h1 v0 x7 v2 0 h1 g0 f4)) hD hS hA [0, 1] rfl
      refine va_calli (va_runV (As := []) (rest := []) ⟨hx, hb, hml, hown, hts⟩ (k_X10_sign l dC dI h0 h1 v0 x7 v2 0 g0 f4 ⟨i_v0a, i_v0b⟩ ⟨oa_x7, by first | omega | decide⟩ ia_f4 H.size) (cwV 0 hts g_X10_takeNumber_4 rfl rfl rfl (by decide +kernel) ⟨Nat.le_of_ble_eq_true rfl, Nat.le_of_ble_eq_true rfl⟩) (pv_PV10 hPc hKc hDc (q0 := 0) rfl) rfl rfl hl.1 rfl (lv_room (Nat.le_of_ble_eq_true rfl)) dX10_takeNumber_28 ⟨Nat.le_of_ble_eq_true rfl, Nat.le_of_ble_eq_true rfl⟩) hS (fun q _ h => hFc q h) hFc (fun ra10 u t H1 locs ht hvm hwra10 hB hz1 hk1 hS => ?_)
      try rw [hwra10] at hB
      have hkra10_0 : ((0 : Int32)).toInt = 0 := by decide
      rcases hB with hB | hB
      · skip
        obtain ⟨pt0_ra10, pt1_ra10, pt2_ra10, pt3_ra10, hP1, hK1, hD1⟩ := hB
        rw [ht] at hP1
        obtain ⟨hP2, hD2⟩ := va_join (wr := []) (w1 := (wd_82cdd16b h0 h1 v0 x7 v2 0 h1 g0 f4)) hP hD [0, 1] [] rfl rfl (by decide) (by decide) hk1 hFc hP1 hD1
        clear hP hD hPc hDc hKc hFc hP1 hK1 hD1 hk1 hz1
        generalize H1 = H at hP2 hS ⊢
        have hP : va_P (dC, dI) vwCl (wd_82cdd16b h0 h1 v0 x7 v2 0 h1 g0 f4) H := hP2
        have hD : va_D A (wd_82cdd16b h0 h1 v0 x7 v2 0 h1 g0 f4) := hD2
        clear hP2 hD2
        obtain rfl : ra10 = ((-1) : Int32) := pv_cs (by decide) pt0_ra10 pt1_ra10
        have hPc := hP.sub (ws' := []) [] rfl
        have hDc := hD.sub (ws' := []) [] (by decide) rfl
        have hKc := hK.sub (tys' := []) [] rfl
        have hFc := va_free (wc := []) hD hS hA [] rfl
        refine va_calli (va_runS (As := [.int (-1)]) (rest := []) ⟨hx, hb, hml, hown, hts⟩ (k_X10_isDigit l dC dI ((-1))  H.size) (va_cwS 1 hts g_X10_takeNumber_1 rfl rfl rfl (by decide +kernel) ⟨Nat.le_of_ble_eq_true rfl, Nat.le_of_ble_eq_true rfl⟩) (pv_PS hPc hKc hDc) rfl rfl hl.1 rfl (lv_room (Nat.le_of_ble_eq_true rfl)) dX10_takeNumber_31 ⟨Nat.le_of_ble_eq_true rfl, Nat.le_of_ble_eq_true rfl⟩) hS (fun q _ h => hFc q h) hFc (fun ra11 u t H1 locs ht hvm hwra11 hB hz1 hk1 hS => ?_)
        try rw [hwra11] at hB
        have hkra11_0 : (((-1) : Int32)).toInt = -1 := by decide
        obtain ⟨pt0_ra11, pt1_ra11, pt2_ra11, pt3_ra11, pt4_ra11, hP1, hK1, hD1⟩ := hB
        rw [ht] at hP1
        obtain ⟨hP2, hD2⟩ := va_join (wr := (wd_82cdd16b h0 h1 v0 x7 v2 0 h1 g0 f4)) (w1 := []) hP hD [] [0, 1] rfl rfl (by decide) (by decide) hk1 hFc hP1 hD1
        clear hP hD hPc hDc hKc hFc hP1 hK1 hD1 hk1 hz1
        generalize H1 = H at hP2 hS ⊢
        have hP : va_P (dC, dI) vwCl (wd_82cdd16b h0 h1 v0 x7 v2 0 h1 g0 f4) H := hP2
        have hD : va_D A (wd_82cdd16b h0 h1 v0 x7 v2 0 h1 g0 f4) := hD2
        clear hP2 hD2
        refine lv_if_eq (tgt := 72) hx hb dX10_takeNumber_34 (by decide) (fun c12 => ?_) (fun c12 => ?_)
        · skip
          have fc12 : ra11.toInt = 0 := congrArg Int32.toInt c12
          refine lv_aload_n hx hb dX10_takeNumber_72 rfl (lv_at hl 1 rfl) ?_
          have hPc := hP.sub (ws' := (wd_82cdd16b h0 h1 v0 x7 v2 0 h1 g0 f4)) [0, 1] rfl
          have hDc := hD.sub (ws' := (wd_82cdd16b h0 h1 v0 x7 v2 0 h1 g0 f4)) [0, 1] (by decide) rfl
          have hKc := hK.sub (tys' := [(g0, .int)]) [0] rfl
          have hFc := va_free (wc := (wd_82cdd16b h0 h1 v0 x7 v2 0 h1 g0 f4)) hD hS hA [0, 1] rfl
          refine va_calli (va_runV (As := []) (rest := []) ⟨hx, hb, hml, hown, hts⟩ (k_X10_sign l dC dI h0 h1 v0 x7 v2 0 g0 f4 ⟨i_v0a, i_v0b⟩ ⟨oa_x7, by first | omega | decide⟩ ia_f4 H.size) (cwV 0 hts g_X10_takeNumber_4 rfl rfl rfl (by decide +kernel) ⟨Nat.le_of_ble_eq_true rfl, Nat.le_of_ble_eq_true rfl⟩) (pv_PV10 hPc hKc hDc (q0 := 0) rfl) rfl rfl hl.1 rfl (lv_room (Nat.le_of_ble_eq_true rfl)) dX10_takeNumber_73 ⟨Nat.le_of_ble_eq_true rfl, Nat.le_of_ble_eq_true rfl⟩) hS (fun q _ h => hFc q h) hFc (fun ra13 u t H1 locs ht hvm hwra13 hB hz1 hk1 hS => ?_)
          try rw [hwra13] at hB
          have hkra13_0 : ((0 : Int32)).toInt = 0 := by decide
          rcases hB with hB | hB
          · skip
            obtain ⟨pt0_ra13, pt1_ra13, pt2_ra13, pt3_ra13, hP1, hK1, hD1⟩ := hB
            rw [ht] at hP1
            obtain ⟨hP2, hD2⟩ := va_join (wr := []) (w1 := (wd_82cdd16b h0 h1 v0 x7 v2 0 h1 g0 f4)) hP hD [0, 1] [] rfl rfl (by decide) (by decide) hk1 hFc hP1 hD1
            clear hP hD hPc hDc hKc hFc hP1 hK1 hD1 hk1 hz1
            generalize H1 = H at hP2 hS ⊢
            have hP : va_P (dC, dI) vwCl (wd_82cdd16b h0 h1 v0 x7 v2 0 h1 g0 f4) H := hP2
            have hD : va_D A (wd_82cdd16b h0 h1 v0 x7 v2 0 h1 g0 f4) := hD2
            clear hP2 hD2
            obtain rfl : ra13 = ((-1) : Int32) := pv_cs (by decide) pt0_ra13 pt1_ra13
            have hPc := hP.sub (ws' := []) [] rfl
            have hDc := hD.sub (ws' := []) [] (by decide) rfl
            have hKc := hK.sub (tys' := []) [] rfl
            have hFc := va_free (wc := []) hD hS hA [] rfl
            refine va_calli (va_runS (As := [.int (-1)]) (rest := []) ⟨hx, hb, hml, hown, hts⟩ (k_X10_isDigit l dC dI ((-1))  H.size) (va_cwS 1 hts g_X10_takeNumber_1 rfl rfl rfl (by decide +kernel) ⟨Nat.le_of_ble_eq_true rfl, Nat.le_of_ble_eq_true rfl⟩) (pv_PS hPc hKc hDc) rfl rfl hl.1 rfl (lv_room (Nat.le_of_ble_eq_true rfl)) dX10_takeNumber_76 ⟨Nat.le_of_ble_eq_true rfl, Nat.le_of_ble_eq_true rfl⟩) hS (fun q _ h => hFc q h) hFc (fun ra14 u t H1 locs ht hvm hwra14 hB hz1 hk1 hS => ?_)
            try rw [hwra14] at hB
            have hkra14_0 : (((-1) : Int32)).toInt = -1 := by decide
            obtain ⟨pt0_ra14, pt1_ra14, pt2_ra14, pt3_ra14, pt4_ra14, hP1, hK1, hD1⟩ := hB
            rw [ht] at hP1
            obtain ⟨hP2, hD2⟩ := va_join (wr := (wd_82cdd16b h0 h1 v0 x7 v2 0 h1 g0 f4)) (w1 := []) hP hD [] [0, 1] rfl rfl (by decide) (by decide) hk1 hFc hP1 hD1
            clear hP hD hPc hDc hKc hFc hP1 hK1 hD1 hk1 hz1
            generalize H1 = H at hP2 hS ⊢
            have hP : va_P (dC, dI) vwCl (wd_82cdd16b h0 h1 v0 x7 v2 0 h1 g0 f4) H := hP2
            have hD : va_D A (wd_82cdd16b h0 h1 v0 x7 v2 0 h1 g0 f4) := hD2
            clear hP2 hD2
            refine lv_if_eq (tgt := 89) hx hb dX10_takeNumber_79 (by decide) (fun c15 => ?_) (fun c15 => ?_)
            · skip
              have fc15 : ra14.toInt = 0 := congrArg Int32.toInt c15
              refine lv_iconst (v := 1) hx hb dX10_takeNumber_89 (by decide) ?_
              refine lv_goto (tgt := 94) hx hb dX10_takeNumber_90 (by decide) ?_
              subst hQ
              have hP9 := hP.sub (ws' := (wd_82cdd16b h0 h1 v0 x7 v2 0 h1 g0 f4)) [0, 1] rfl
              have hD9 := hD.sub (ws' := (wd_82cdd16b h0 h1 v0 x7 v2 0 h1 g0 f4)) [0, 1] (by decide) rfl
              have hK9 := hK.sub (tys' := []) [] rfl
              exact W.zret (v := 1) hx hb hr rfl (fun t ht hW => ⟨⟨1, 1, rfl, rfl, Or.inl ⟨x7, 0, oa_x7, by first | omega | decide, by decide, by decide, by first | omega | decide, by first | omega | decide, by omega, by first | exact hnm.trans (pg_nm.stop (by omega)) | (exfalso; omega), by rw [ht]; exact hP9, va_K.moved hW.alike hK9, hD9⟩⟩, hS.F ht⟩) hS.2.2 dX10_takeNumber_94
            · skip
              have fc15 : ¬ (ra14.toInt = 0) := fun h9 => c15 (Int32.toInt_inj.mp h9)
              exfalso; omega
          · skip
            obtain ⟨pt0_ra13, pt1_ra13, pt2_ra13, pt3_ra13, hP1, hK1, hD1⟩ := hB
            rw [ht] at hP1
            obtain ⟨hP2, hD2⟩ := va_join (wr := []) (w1 := (wd_82cdd16b h0 h1 v0 x7 v2 0 h1 g0 f4)) hP hD [0, 1] [] rfl rfl (by decide) (by decide) hk1 hFc hP1 hD1
            clear hP hD hPc hDc hKc hFc hP1 hK1 hD1 hk1 hz1
            generalize H1 = H at hP2 hS ⊢
            have hP : va_P (dC, dI) vwCl (wd_82cdd16b h0 h1 v0 x7 v2 0 h1 g0 f4) H := hP2
            have hD : va_D A (wd_82cdd16b h0 h1 v0 x7 v2 0 h1 g0 f4) := hD2
            clear hP2 hD2
            exfalso; omega
        · skip
          have fc12 : ¬ (ra11.toInt = 0) := fun h9 => c12 (Int32.toInt_inj.mp h9)
          exfalso; omega
      · skip
        obtain ⟨pt0_ra10, pt1_ra10, pt2_ra10, pt3_ra10, hP1, hK1, hD1⟩ := hB
        rw [ht] at hP1
        obtain ⟨hP2, hD2⟩ := va_join (wr := []) (w1 := (wd_82cdd16b h0 h1 v0 x7 v2 0 h1 g0 f4)) hP hD [0, 1] [] rfl rfl (by decide) (by decide) hk1 hFc hP1 hD1
        clear hP hD hPc hDc hKc hFc hP1 hK1 hD1 hk1 hz1
        generalize H1 = H at hP2 hS ⊢
        have hP : va_P (dC, dI) vwCl (wd_82cdd16b h0 h1 v0 x7 v2 0 h1 g0 f4) H := hP2
        have hD : va_D A (wd_82cdd16b h0 h1 v0 x7 v2 0 h1 g0 f4) := hD2
        clear hP2 hD2
        have hPc := hP.sub (ws' := []) [] rfl
        have hDc := hD.sub (ws' := []) [] (by decide) rfl
        have hKc := hK.sub (tys' := []) [] rfl
        have hFc := va_free (wc := []) hD hS hA [] rfl
        refine va_calli (va_runS (As := [.int ra10]) (rest := []) ⟨hx, hb, hml, hown, hts⟩ (k_X10_isDigit l dC dI ra10  H.size) (va_cwS 1 hts g_X10_takeNumber_1 rfl rfl rfl (by decide +kernel) ⟨Nat.le_of_ble_eq_true rfl, Nat.le_of_ble_eq_true rfl⟩) (pv_PS hPc hKc hDc) rfl rfl hl.1 rfl (lv_room (Nat.le_of_ble_eq_true rfl)) dX10_takeNumber_31 ⟨Nat.le_of_ble_eq_true rfl, Nat.le_of_ble_eq_true rfl⟩) hS (fun q _ h => hFc q h) hFc (fun ra16 u t H1 locs ht hvm hwra16 hB hz1 hk1 hS => ?_)
        try rw [hwra16] at hB
        obtain ⟨pt0_ra16, pt1_ra16, pt2_ra16, pt3_ra16, pt4_ra16, hP1, hK1, hD1⟩ := hB
        rw [ht] at hP1
        obtain ⟨hP2, hD2⟩ := va_join (wr := (wd_82cdd16b h0 h1 v0 x7 v2 0 h1 g0 f4)) (w1 := []) hP hD [] [0, 1] rfl rfl (by decide) (by decide) hk1 hFc hP1 hD1
        clear hP hD hPc hDc hKc hFc hP1 hK1 hD1 hk1 hz1
        generalize H1 = H at hP2 hS ⊢
        have hP : va_P (dC, dI) vwCl (wd_82cdd16b h0 h1 v0 x7 v2 0 h1 g0 f4) H := hP2
        have hD : va_D A (wd_82cdd16b h0 h1 v0 x7 v2 0 h1 g0 f4) := hD2
        clear hP2 hD2
        refine lv_if_eq (tgt := 72) hx hb dX10_takeNumber_34 (by decide) (fun c17 => ?_) (fun c17 => ?_)
        · skip
          have fc17 : ra16.toInt = 0 := congrArg Int32.toInt c17
          refine lv_aload_n hx hb dX10_takeNumber_72 rfl (lv_at hl 1 rfl) ?_
          have hPc := hP.sub (ws' := (wd_82cdd16b h0 h1 v0 x7 v2 0 h1 g0 f4)) [0, 1] rfl
          have hDc := hD.sub (ws' := (wd_82cdd16b h0 h1 v0 x7 v2 0 h1 g0 f4)) [0, 1] (by decide) rfl
          have hKc := hK.sub (tys' := [(g0, .int)]) [0] rfl
          have hFc := va_free (wc := (wd_82cdd16b h0 h1 v0 x7 v2 0 h1 g0 f4)) hD hS hA [0, 1] rfl
          refine va_calli (va_runV (As := []) (rest := []) ⟨hx, hb, hml, hown, hts⟩ (k_X10_sign l dC dI h0 h1 v0 x7 v2 0 g0 f4 ⟨i_v0a, i_v0b⟩ ⟨oa_x7, by first | omega | decide⟩ ia_f4 H.size) (cwV 0 hts g_X10_takeNumber_4 rfl rfl rfl (by decide +kernel) ⟨Nat.le_of_ble_eq_true rfl, Nat.le_of_ble_eq_true rfl⟩) (pv_PV10 hPc hKc hDc (q0 := 0) rfl) rfl rfl hl.1 rfl (lv_room (Nat.le_of_ble_eq_true rfl)) dX10_takeNumber_73 ⟨Nat.le_of_ble_eq_true rfl, Nat.le_of_ble_eq_true rfl⟩) hS (fun q _ h => hFc q h) hFc (fun ra18 u t H1 locs ht hvm hwra18 hB hz1 hk1 hS => ?_)
          try rw [hwra18] at hB
          have hkra18_0 : ((0 : Int32)).toInt = 0 := by decide
          rcases hB with hB | hB
          · skip
            obtain ⟨pt0_ra18, pt1_ra18, pt2_ra18, pt3_ra18, hP1, hK1, hD1⟩ := hB
            rw [ht] at hP1
            obtain ⟨hP2, hD2⟩ := va_join (wr := []) (w1 := (wd_82cdd16b h0 h1 v0 x7 v2 0 h1 g0 f4)) hP hD [0, 1] [] rfl rfl (by decide) (by decide) hk1 hFc hP1 hD1
            clear hP hD hPc hDc hKc hFc hP1 hK1 hD1 hk1 hz1
            generalize H1 = H at hP2 hS ⊢
            have hP : va_P (dC, dI) vwCl (wd_82cdd16b h0 h1 v0 x7 v2 0 h1 g0 f4) H := hP2
            have hD : va_D A (wd_82cdd16b h0 h1 v0 x7 v2 0 h1 g0 f4) := hD2
            clear hP2 hD2
            obtain rfl : ra18 = ((-1) : Int32) := pv_cs (by decide) pt0_ra18 pt1_ra18
            exfalso; omega
          · skip
            obtain ⟨pt0_ra18, pt1_ra18, pt2_ra18, pt3_ra18, hP1, hK1, hD1⟩ := hB
            rw [ht] at hP1
            obtain ⟨hP2, hD2⟩ := va_join (wr := []) (w1 := (wd_82cdd16b h0 h1 v0 x7 v2 0 h1 g0 f4)) hP hD [0, 1] [] rfl rfl (by decide) (by decide) hk1 hFc hP1 hD1
            clear hP hD hPc hDc hKc hFc hP1 hK1 hD1 hk1 hz1
            generalize H1 = H at hP2 hS ⊢
            have hP : va_P (dC, dI) vwCl (wd_82cdd16b h0 h1 v0 x7 v2 0 h1 g0 f4) H := hP2
            have hD : va_D A (wd_82cdd16b h0 h1 v0 x7 v2 0 h1 g0 f4) := hD2
            clear hP2 hD2
            have hPc := hP.sub (ws' := []) [] rfl
            have hDc := hD.sub (ws' := []) [] (by decide) rfl
            have hKc := hK.sub (tys' := []) [] rfl
            have hFc := va_free (wc := []) hD hS hA [] rfl
            refine va_calli (va_runS (As := [.int ra18]) (rest := []) ⟨hx, hb, hml, hown, hts⟩ (k_X10_isDigit l dC dI ra18  H.size) (va_cwS 1 hts g_X10_takeNumber_1 rfl rfl rfl (by decide +kernel) ⟨Nat.le_of_ble_eq_true rfl, Nat.le_of_ble_eq_true rfl⟩) (pv_PS hPc hKc hDc) rfl rfl hl.1 rfl (lv_room (Nat.le_of_ble_eq_true rfl)) dX10_takeNumber_76 ⟨Nat.le_of_ble_eq_true rfl, Nat.le_of_ble_eq_true rfl⟩) hS (fun q _ h => hFc q h) hFc (fun ra19 u t H1 locs ht hvm hwra19 hB hz1 hk1 hS => ?_)
            try rw [hwra19] at hB
            obtain ⟨pt0_ra19, pt1_ra19, pt2_ra19, pt3_ra19, pt4_ra19, hP1, hK1, hD1⟩ := hB
            rw [ht] at hP1
            obtain ⟨hP2, hD2⟩ := va_join (wr := (wd_82cdd16b h0 h1 v0 x7 v2 0 h1 g0 f4)) (w1 := []) hP hD [] [0, 1] rfl rfl (by decide) (by decide) hk1 hFc hP1 hD1
            clear hP hD hPc hDc hKc hFc hP1 hK1 hD1 hk1 hz1
            generalize H1 = H at hP2 hS ⊢
            have hP : va_P (dC, dI) vwCl (wd_82cdd16b h0 h1 v0 x7 v2 0 h1 g0 f4) H := hP2
            have hD : va_D A (wd_82cdd16b h0 h1 v0 x7 v2 0 h1 g0 f4) := hD2
            clear hP2 hD2
            refine lv_if_eq (tgt := 89) hx hb dX10_takeNumber_79 (by decide) (fun c20 => ?_) (fun c20 => ?_)
            · skip
              have fc20 : ra19.toInt = 0 := congrArg Int32.toInt c20
              refine lv_iconst (v := 1) hx hb dX10_takeNumber_89 (by decide) ?_
              refine lv_goto (tgt := 94) hx hb dX10_takeNumber_90 (by decide) ?_
              subst hQ
              have hP9 := hP.sub (ws' := (wd_82cdd16b h0 h1 v0 x7 v2 0 h1 g0 f4)) [0, 1] rfl
              have hD9 := hD.sub (ws' := (wd_82cdd16b h0 h1 v0 x7 v2 0 h1 g0 f4)) [0, 1] (by decide) rfl
              have hK9 := hK.sub (tys' := []) [] rfl
              exact W.zret (v := 1) hx hb hr rfl (fun t ht hW => ⟨⟨1, 1, rfl, rfl, Or.inl ⟨x7, 0, oa_x7, by first | omega | decide, by decide, by decide, by first | omega | decide, by first | omega | decide, by omega, by first | exact hnm.trans (pg_nm.stop (by omega)) | (exfalso; omega), by rw [ht]; exact hP9, va_K.moved hW.alike hK9, hD9⟩⟩, hS.F ht⟩) hS.2.2 dX10_takeNumber_94
            · skip
              have fc20 : ¬ (ra19.toInt = 0) := fun h9 => c20 (Int32.toInt_inj.mp h9)
              refine lv_aload_n hx hb dX10_takeNumber_82 rfl (lv_at hl 1 rfl) ?_
              have hPc := hP.sub (ws' := (wd_09b0abee h0 h1 v0 x7 v2 0)) [0] rfl
              have hDc := hD.sub (ws' := (wd_09b0abee h0 h1 v0 x7 v2 0)) [0] (by decide) rfl
              have hKc := hK.sub (tys' := []) [] rfl
              have hFc := va_free (wc := (wd_09b0abee h0 h1 v0 x7 v2 0)) hD hS hA [0] rfl
              refine va_calli (va_runV (As := []) (rest := []) ⟨hx, hb, hml, hown, hts⟩ (k_X10_wrongHere l dC dI h0 h1 v0 x7 v2 0 ⟨i_v0a, i_v0b⟩ ⟨oa_x7, by first | omega | decide⟩ H.size) (cwV 0 hts g_X10_takeNumber_2 rfl rfl rfl (by decide +kernel) ⟨Nat.le_of_ble_eq_true rfl, Nat.le_of_ble_eq_true rfl⟩) (pv_PV10 hPc hKc hDc (q0 := 0) rfl) rfl rfl hl.1 rfl (lv_room (Nat.le_of_ble_eq_true rfl)) dX10_takeNumber_83 ⟨Nat.le_of_ble_eq_true rfl, Nat.le_of_ble_eq_true rfl⟩) hS (fun q _ h => hFc q h) hFc (fun ra21 u t H1 locs ht hvm hwra21 hB hz1 hk1 hS => ?_)
              try rw [hwra21] at hB
              have hkra21_0 : ((0 : Int32)).toInt = 0 := by decide
              obtain ⟨x22, oa_x22, ob_x22, pt0_ra21, pt1_ra21, pt2_ra21, hP1, hK1, hD1⟩ := hB
              rw [ht] at hP1
              obtain ⟨hP2, hD2⟩ := va_join (wr := (wd_d0032b31 h1 g0 f4)) (w1 := (wd_09b0abee h0 h1 v0 x7 x22 0)) hP hD [0] [1] rfl rfl (by decide) (by decide) hk1 hFc hP1 hD1
              clear hP hD hPc hDc hKc hFc hP1 hK1 hD1 hk1 hz1
              generalize H1 = H at hP2 hS ⊢
              have hP := hP2.sub (ws' := (wd_82cdd16b h0 h1 v0 x7 x22 0 h1 g0 f4)) [1, 0] rfl
              have hD := hD2.sub (ws' := (wd_82cdd16b h0 h1 v0 x7 x22 0 h1 g0 f4)) [1, 0] (by decide) rfl
              clear hP2 hD2
              obtain rfl : ra21 = (0 : Int32) := pv_cs (by decide) pt0_ra21 pt1_ra21
              refine lv_if_eq (tgt := 93) hx hb dX10_takeNumber_86 (by decide) (fun _ => ?_) (fun c => absurd (by decide) c)
              refine lv_iconst (v := 0) hx hb dX10_takeNumber_93 (by decide) ?_
              subst hQ
              have hP9 := hP.sub (ws' := (wd_82cdd16b h0 h1 v0 x7 x22 0 h1 g0 f4)) [0, 1] rfl
              have hD9 := hD.sub (ws' := (wd_82cdd16b h0 h1 v0 x7 x22 0 h1 g0 f4)) [0, 1] (by decide) rfl
              have hK9 := hK.sub (tys' := []) [] rfl
              exact W.zret (v := 0) hx hb hr rfl (fun t ht hW => ⟨⟨0, 0, rfl, rfl, Or.inr (⟨x7, x22, 0, oa_x7, by first | omega | decide, oa_x22, ob_x22, by first | omega | decide, by first | omega | decide, by omega, by first | exact Or.inr (hnm.trans (pg_nm.over (by omega) (by omega) (by omega))) | (apply pg_nm.nn <;> first | assumption | omega) | (exfalso; omega), by rw [ht]; exact hP9, va_K.moved hW.alike hK9, hD9⟩)⟩, hS.F ht⟩) hS.2.2 dX10_takeNumber_94
        · skip
          have fc17 : ¬ (ra16.toInt = 0) := fun h9 => c17 (Int32.toInt_inj.mp h9)
          refine lv_aload_n hx hb dX10_takeNumber_37 rfl (lv_at hl 1 rfl) ?_
          refine lv_aload_n hx hb dX10_takeNumber_38 rfl (lv_at hl 1 rfl) ?_
          refine va_get (D := (dC, dI)) (ci := 10) (v := .int 0) (C := RX10) (T := TX10) (N := 5) hx hb hts (fun _ h => List.mem_cons_of_mem _ (List.mem_append_right _ h)) hown hK hP 0 rfl rfl 4 (by decide) (hts (.fieldLink RX10 25 "LeftArguments$Tape" "number" "I") (List.mem_cons_of_mem _ (List.mem_append_left _ (List.mem_of_getElem? (i := 16) rfl)))) (fun _ h9 => h9) rfl dX10_takeNumber_39 ?_
          refine lv_bipush (v := 10) hx hb dX10_takeNumber_42 (by decide) ?_
          refine lv_imul hx hb dX10_takeNumber_44 ?_
          refine lv_topi (fun tv23 etv23 => ?_)
          obtain rfl : tv23 = (0 : Int32) := etv23.trans (by first | rfl | decide)
          refine lv_aload_n hx hb dX10_takeNumber_45 rfl (lv_at hl 1 rfl) ?_
          have hPc := hP.sub (ws' := (wd_82cdd16b h0 h1 v0 x7 v2 0 h1 g0 f4)) [0, 1] rfl
          have hDc := hD.sub (ws' := (wd_82cdd16b h0 h1 v0 x7 v2 0 h1 g0 f4)) [0, 1] (by decide) rfl
          have hKc := hK.sub (tys' := [(g0, .int)]) [0] rfl
          have hFc := va_free (wc := (wd_82cdd16b h0 h1 v0 x7 v2 0 h1 g0 f4)) hD hS hA [0, 1] rfl
          refine va_calli (va_runV (As := []) (rest := [.int 0, .ref h0]) ⟨hx, hb, hml, hown, hts⟩ (k_X10_sign l dC dI h0 h1 v0 x7 v2 0 g0 f4 ⟨i_v0a, i_v0b⟩ ⟨oa_x7, by first | omega | decide⟩ ia_f4 H.size) (cwV 0 hts g_X10_takeNumber_4 rfl rfl rfl (by decide +kernel) ⟨Nat.le_of_ble_eq_true rfl, Nat.le_of_ble_eq_true rfl⟩) (pv_PV10 hPc hKc hDc (q0 := 0) rfl) rfl rfl hl.1 rfl (lv_room (Nat.le_of_ble_eq_true rfl)) dX10_takeNumber_46 ⟨Nat.le_of_ble_eq_true rfl, Nat.le_of_ble_eq_true rfl⟩) hS (fun q _ h => hFc q h) hFc (fun ra24 u t H1 locs ht hvm hwra24 hB hz1 hk1 hS => ?_)
          try rw [hwra24] at hB
          have hkra24_0 : ((0 : Int32)).toInt = 0 := by decide
          rcases hB with hB | hB
          · skip
            obtain ⟨pt0_ra24, pt1_ra24, pt2_ra24, pt3_ra24, hP1, hK1, hD1⟩ := hB
            rw [ht] at hP1
            obtain ⟨hP2, hD2⟩ := va_join (wr := []) (w1 := (wd_82cdd16b h0 h1 v0 x7 v2 0 h1 g0 f4)) hP hD [0, 1] [] rfl rfl (by decide) (by decide) hk1 hFc hP1 hD1
            clear hP hD hPc hDc hKc hFc hP1 hK1 hD1 hk1 hz1
            generalize H1 = H at hP2 hS ⊢
            have hP : va_P (dC, dI) vwCl (wd_82cdd16b h0 h1 v0 x7 v2 0 h1 g0 f4) H := hP2
            have hD : va_D A (wd_82cdd16b h0 h1 v0 x7 v2 0 h1 g0 f4) := hD2
            clear hP2 hD2
            obtain rfl : ra24 = ((-1) : Int32) := pv_cs (by decide) pt0_ra24 pt1_ra24
            exfalso; omega
          · skip
            obtain ⟨pt0_ra24, pt1_ra24, pt2_ra24, pt3_ra24, hP1, hK1, hD1⟩ := hB
            rw [ht] at hP1
            obtain ⟨hP2, hD2⟩ := va_join (wr := []) (w1 := (wd_82cdd16b h0 h1 v0 x7 v2 0 h1 g0 f4)) hP hD [0, 1] [] rfl rfl (by decide) (by decide) hk1 hFc hP1 hD1
            clear hP hD hPc hDc hKc hFc hP1 hK1 hD1 hk1 hz1
            generalize H1 = H at hP2 hS ⊢
            have hP : va_P (dC, dI) vwCl (wd_82cdd16b h0 h1 v0 x7 v2 0 h1 g0 f4) H := hP2
            have hD : va_D A (wd_82cdd16b h0 h1 v0 x7 v2 0 h1 g0 f4) := hD2
            clear hP2 hD2
            refine lv_iadd hx hb dX10_takeNumber_49 ?_
            refine lv_topi (fun t25 et25 => ?_)
            have gt25 : t25.toInt = 0 + ra24.toInt := pv_add (a := 0) (b := ra24.toInt) et25 (by decide) rfl (by omega) (by omega)
            refine lv_bipush (v := 48) hx hb dX10_takeNumber_50 (by decide) ?_
            refine lv_isub hx hb dX10_takeNumber_52 ?_
            refine lv_topi (fun t26 et26 => ?_)
            have gt26 : t26.toInt = t25.toInt - 48 := pv_sub (a := t25.toInt) (b := 48) et26 rfl (by decide) (by omega) (by omega)
            refine va_put (D := (dC, dI)) (ci := 10) (v := .int t26) (ty := .int) (C := RX10) (T := TX10) (N := 5) hx hb hts (fun _ h => List.mem_cons_of_mem _ (List.mem_append_right _ h)) tyX10 tyX10_ok nmX10 hown hK hP hD hS 0 rfl rfl 4 (by decide) (hts (.fieldLink RX10 25 "LeftArguments$Tape" "number" "I") (List.mem_cons_of_mem _ (List.mem_append_left _ (List.mem_of_getElem? (i := 16) rfl)))) (fun _ h9 => h9) rfl (by decide +kernel) rfl rfl (Nat.le_of_ble_eq_true rfl) dX10_takeNumber_53 (fun H locs hP hD hS => ?_)
            have hP : va_P (dC, dI) vwCl (wd_82cdd16b h0 h1 v0 x7 v2 t26 h1 g0 f4) H := hP
            have hD : va_D A (wd_82cdd16b h0 h1 v0 x7 v2 t26 h1 g0 f4) := hD
            refine lv_aload_n hx hb dX10_takeNumber_56 rfl (lv_at hl 1 rfl) ?_
            refine lv_dup hx hb dX10_takeNumber_57 rfl ?_
            refine va_get (D := (dC, dI)) (ci := 10) (v := .int x7) (C := RX10) (T := TX10) (N := 5) hx hb hts (fun _ h => List.mem_cons_of_mem _ (List.mem_append_right _ h)) hown hK hP 0 rfl rfl 2 (by decide) (hts (.fieldLink RX10 19 "LeftArguments$Tape" "at" "I") (List.mem_cons_of_mem _ (List.mem_append_left _ (List.mem_of_getElem? (i := 1) rfl)))) (fun _ h9 => h9) rfl dX10_takeNumber_58 ?_
            refine lv_iconst (v := 1) hx hb dX10_takeNumber_61 (by decide) ?_
            refine lv_iadd hx hb dX10_takeNumber_62 ?_
            refine lv_topi (fun t27 et27 => ?_)
            have gt27 : t27.toInt = x7.toInt + 1 := pv_add (a := x7.toInt) (b := 1) et27 rfl (by decide) (by omega) (by omega)
            refine va_put (D := (dC, dI)) (ci := 10) (v := .int t27) (ty := .int) (C := RX10) (T := TX10) (N := 5) hx hb hts (fun _ h => List.mem_cons_of_mem _ (List.mem_append_right _ h)) tyX10 tyX10_ok nmX10 hown hK hP hD hS 0 rfl rfl 2 (by decide) (hts (.fieldLink RX10 19 "LeftArguments$Tape" "at" "I") (List.mem_cons_of_mem _ (List.mem_append_left _ (List.mem_of_getElem? (i := 1) rfl)))) (fun _ h9 => h9) rfl (by decide +kernel) rfl rfl (Nat.le_of_ble_eq_true rfl) dX10_takeNumber_63 (fun H locs hP hD hS => ?_)
            have hP : va_P (dC, dI) vwCl (wd_82cdd16b h0 h1 v0 t27 v2 t26 h1 g0 f4) H := hP
            have hD : va_D A (wd_82cdd16b h0 h1 v0 t27 v2 t26 h1 g0 f4) := hD
            have hnm : pg_nm f4 v0.toInt 4 (pg_s f4 v0.toInt v1.toInt) = pg_nm f4 v0.toInt 3 t27.toInt := hnm.trans (pg_nm.step (by omega) (by omega) (by omega))
            refine lv_iinc (v := 1) (lv' := [(2, .int 1), (0, .ref h0), (1, .int 4)]) hx hb dX10_takeNumber_66 hl (k := 0) rfl (by decide) (by decide) rfl (fun ls hl => ?_)
            refine lv_goto (tgt := 22) hx hb dX10_takeNumber_69 (by decide) ?_
            refine lv_iload_n hx hb dX10_takeNumber_22 rfl (lv_at hl 0 rfl) ?_
            refine lv_iload_n hx hb dX10_takeNumber_23 rfl (lv_at hl 2 rfl) ?_
            refine lv_icmp_ge (tgt := 72) hx hb dX10_takeNumber_24 (by decide) (fun c => absurd c (by decide)) (fun _ => ?_)
            refine lv_aload_n hx hb dX10_takeNumber_27 rfl (lv_at hl 1 rfl) ?_
            have hPc := hP.sub (ws' := (wd_82cdd16b h0 h1 v0 t27 v2 t26 h1 g0 f4)) [0, 1] rfl
            have hDc := hD.sub (ws' := (wd_82cdd16b h0 h1 v0 t27 v2 t26 h1 g0 f4)) [0, 1] (by decide) rfl
            have hKc := hK.sub (tys' := [(g0, .int)]) [0] rfl
            have hFc := va_free (wc := (wd_82cdd16b h0 h1 v0 t27 v2 t26 h1 g0 f4)) hD hS hA [0, 1] rfl
            refine va_calli (va_runV (As := []) (rest := []) ⟨hx, hb, hml, hown, hts⟩ (k_X10_sign l dC dI h0 h1 v0 t27 v2 t26 g0 f4 ⟨i_v0a, i_v0b⟩ ⟨by first | omega | decide, by first | omega | decide⟩ ia_f4 H.size) (cwV 0 hts g_X10_takeNumber_4 rfl rfl rfl (by decide +kernel) ⟨Nat.le_of_ble_eq_true rfl, Nat.le_of_ble_eq_true rfl⟩) (pv_PV10 hPc hKc hDc (q0 := 0) rfl) rfl rfl hl.1 rfl (lv_room (Nat.le_of_ble_eq_true rfl)) dX10_takeNumber_28 ⟨Nat.le_of_ble_eq_true rfl, Nat.le_of_ble_eq_true rfl⟩) hS (fun q _ h => hFc q h) hFc (fun ra28 u t H1 locs ht hvm hwra28 hB hz1 hk1 hS => ?_)
            try rw [hwra28] at hB
            rcases hB with hB | hB
            · skip
              obtain ⟨pt0_ra28, pt1_ra28, pt2_ra28, pt3_ra28, hP1, hK1, hD1⟩ := hB
              rw [ht] at hP1
              obtain ⟨hP2, hD2⟩ := va_join (wr := []) (w1 := (wd_82cdd16b h0 h1 v0 t27 v2 t26 h1 g0 f4)) hP hD [0, 1] [] rfl rfl (by decide) (by decide) hk1 hFc hP1 hD1
              clear hP hD hPc hDc hKc hFc hP1 hK1 hD1 hk1 hz1
              generalize H1 = H at hP2 hS ⊢
              have hP : va_P (dC, dI) vwCl (wd_82cdd16b h0 h1 v0 t27 v2 t26 h1 g0 f4) H := hP2
              have hD : va_D A (wd_82cdd16b h0 h1 v0 t27 v2 t26 h1 g0 f4) := hD2
              clear hP2 hD2
              obtain rfl : ra28 = ((-1) : Int32) := pv_cs (by decide) pt0_ra28 pt1_ra28
              have hPc := hP.sub (ws' := []) [] rfl
              have hDc := hD.sub (ws' := []) [] (by decide) rfl
              have hKc := hK.sub (tys' := []) [] rfl
              have hFc := va_free (wc := []) hD hS hA [] rfl
              refine va_calli (va_runS (As := [.int (-1)]) (rest := []) ⟨hx, hb, hml, hown, hts⟩ (k_X10_isDigit l dC dI ((-1))  H.size) (va_cwS 1 hts g_X10_takeNumber_1 rfl rfl rfl (by decide +kernel) ⟨Nat.le_of_ble_eq_true rfl, Nat.le_of_ble_eq_true rfl⟩) (pv_PS hPc hKc hDc) rfl rfl hl.1 rfl (lv_room (Nat.le_of_ble_eq_true rfl)) dX10_takeNumber_31 ⟨Nat.le_of_ble_eq_true rfl, Nat.le_of_ble_eq_true rfl⟩) hS (fun q _ h => hFc q h) hFc (fun ra29 u t H1 locs ht hvm hwra29 hB hz1 hk1 hS => ?_)
              try rw [hwra29] at hB
              have hkra29_0 : (((-1) : Int32)).toInt = -1 := by decide
              obtain ⟨pt0_ra29, pt1_ra29, pt2_ra29, pt3_ra29, pt4_ra29, hP1, hK1, hD1⟩ := hB
              rw [ht] at hP1
              obtain ⟨hP2, hD2⟩ := va_join (wr := (wd_82cdd16b h0 h1 v0 t27 v2 t26 h1 g0 f4)) (w1 := []) hP hD [] [0, 1] rfl rfl (by decide) (by decide) hk1 hFc hP1 hD1
              clear hP hD hPc hDc hKc hFc hP1 hK1 hD1 hk1 hz1
              generalize H1 = H at hP2 hS ⊢
              have hP : va_P (dC, dI) vwCl (wd_82cdd16b h0 h1 v0 t27 v2 t26 h1 g0 f4) H := hP2
              have hD : va_D A (wd_82cdd16b h0 h1 v0 t27 v2 t26 h1 g0 f4) := hD2
              clear hP2 hD2
              refine lv_if_eq (tgt := 72) hx hb dX10_takeNumber_34 (by decide) (fun c30 => ?_) (fun c30 => ?_)
              · skip
                have fc30 : ra29.toInt = 0 := congrArg Int32.toInt c30
                refine lv_aload_n hx hb dX10_takeNumber_72 rfl (lv_at hl 1 rfl) ?_
                have hPc := hP.sub (ws' := (wd_82cdd16b h0 h1 v0 t27 v2 t26 h1 g0 f4)) [0, 1] rfl
                have hDc := hD.sub (ws' := (wd_82cdd16b h0 h1 v0 t27 v2 t26 h1 g0 f4)) [0, 1] (by decide) rfl
                have hKc := hK.sub (tys' := [(g0, .int)]) [0] rfl
                have hFc := va_free (wc := (wd_82cdd16b h0 h1 v0 t27 v2 t26 h1 g0 f4)) hD hS hA [0, 1] rfl
                refine va_calli (va_runV (As := []) (rest := []) ⟨hx, hb, hml, hown, hts⟩ (k_X10_sign l dC dI h0 h1 v0 t27 v2 t26 g0 f4 ⟨i_v0a, i_v0b⟩ ⟨by first | omega | decide, by first | omega | decide⟩ ia_f4 H.size) (cwV 0 hts g_X10_takeNumber_4 rfl rfl rfl (by decide +kernel) ⟨Nat.le_of_ble_eq_true rfl, Nat.le_of_ble_eq_true rfl⟩) (pv_PV10 hPc hKc hDc (q0 := 0) rfl) rfl rfl hl.1 rfl (lv_room (Nat.le_of_ble_eq_true rfl)) dX10_takeNumber_73 ⟨Nat.le_of_ble_eq_true rfl, Nat.le_of_ble_eq_true rfl⟩) hS (fun q _ h => hFc q h) hFc (fun ra31 u t H1 locs ht hvm hwra31 hB hz1 hk1 hS => ?_)
                try rw [hwra31] at hB
                rcases hB with hB | hB
                · skip
                  obtain ⟨pt0_ra31, pt1_ra31, pt2_ra31, pt3_ra31, hP1, hK1, hD1⟩ := hB
                  rw [ht] at hP1
                  obtain ⟨hP2, hD2⟩ := va_join (wr := []) (w1 := (wd_82cdd16b h0 h1 v0 t27 v2 t26 h1 g0 f4)) hP hD [0, 1] [] rfl rfl (by decide) (by decide) hk1 hFc hP1 hD1
                  clear hP hD hPc hDc hKc hFc hP1 hK1 hD1 hk1 hz1
                  generalize H1 = H at hP2 hS ⊢
                  have hP : va_P (dC, dI) vwCl (wd_82cdd16b h0 h1 v0 t27 v2 t26 h1 g0 f4) H := hP2
                  have hD : va_D A (wd_82cdd16b h0 h1 v0 t27 v2 t26 h1 g0 f4) := hD2
                  clear hP2 hD2
                  obtain rfl : ra31 = ((-1) : Int32) := pv_cs (by decide) pt0_ra31 pt1_ra31
                  have hPc := hP.sub (ws' := []) [] rfl
                  have hDc := hD.sub (ws' := []) [] (by decide) rfl
                  have hKc := hK.sub (tys' := []) [] rfl
                  have hFc := va_free (wc := []) hD hS hA [] rfl
                  refine va_calli (va_runS (As := [.int (-1)]) (rest := []) ⟨hx, hb, hml, hown, hts⟩ (k_X10_isDigit l dC dI ((-1))  H.size) (va_cwS 1 hts g_X10_takeNumber_1 rfl rfl rfl (by decide +kernel) ⟨Nat.le_of_ble_eq_true rfl, Nat.le_of_ble_eq_true rfl⟩) (pv_PS hPc hKc hDc) rfl rfl hl.1 rfl (lv_room (Nat.le_of_ble_eq_true rfl)) dX10_takeNumber_76 ⟨Nat.le_of_ble_eq_true rfl, Nat.le_of_ble_eq_true rfl⟩) hS (fun q _ h => hFc q h) hFc (fun ra32 u t H1 locs ht hvm hwra32 hB hz1 hk1 hS => ?_)
                  try rw [hwra32] at hB
                  have hkra32_0 : (((-1) : Int32)).toInt = -1 := by decide
                  obtain ⟨pt0_ra32, pt1_ra32, pt2_ra32, pt3_ra32, pt4_ra32, hP1, hK1, hD1⟩ := hB
                  rw [ht] at hP1
                  obtain ⟨hP2, hD2⟩ := va_join (wr := (wd_82cdd16b h0 h1 v0 t27 v2 t26 h1 g0 f4)) (w1 := []) hP hD [] [0, 1] rfl rfl (by decide) (by decide) hk1 hFc hP1 hD1
                  clear hP hD hPc hDc hKc hFc hP1 hK1 hD1 hk1 hz1
                  generalize H1 = H at hP2 hS ⊢
                  have hP : va_P (dC, dI) vwCl (wd_82cdd16b h0 h1 v0 t27 v2 t26 h1 g0 f4) H := hP2
                  have hD : va_D A (wd_82cdd16b h0 h1 v0 t27 v2 t26 h1 g0 f4) := hD2
                  clear hP2 hD2
                  refine lv_if_eq (tgt := 89) hx hb dX10_takeNumber_79 (by decide) (fun c33 => ?_) (fun c33 => ?_)
                  · skip
                    have fc33 : ra32.toInt = 0 := congrArg Int32.toInt c33
                    refine lv_iconst (v := 1) hx hb dX10_takeNumber_89 (by decide) ?_
                    refine lv_goto (tgt := 94) hx hb dX10_takeNumber_90 (by decide) ?_
                    subst hQ
                    have hP9 := hP.sub (ws' := (wd_82cdd16b h0 h1 v0 t27 v2 t26 h1 g0 f4)) [0, 1] rfl
                    have hD9 := hD.sub (ws' := (wd_82cdd16b h0 h1 v0 t27 v2 t26 h1 g0 f4)) [0, 1] (by decide) rfl
                    have hK9 := hK.sub (tys' := []) [] rfl
                    exact W.zret (v := 1) hx hb hr rfl (fun t ht hW => ⟨⟨1, 1, rfl, rfl, Or.inl ⟨t27, t26, by first | omega | decide, by first | omega | decide, by first | omega | decide, by first | omega | decide, by first | omega | decide, by first | omega | decide, by omega, by first | exact hnm.trans (pg_nm.stop (by omega)) | (exfalso; omega), by rw [ht]; exact hP9, va_K.moved hW.alike hK9, hD9⟩⟩, hS.F ht⟩) hS.2.2 dX10_takeNumber_94
                  · skip
                    have fc33 : ¬ (ra32.toInt = 0) := fun h9 => c33 (Int32.toInt_inj.mp h9)
                    exfalso; omega
                · skip
                  obtain ⟨pt0_ra31, pt1_ra31, pt2_ra31, pt3_ra31, hP1, hK1, hD1⟩ := hB
                  rw [ht] at hP1
                  obtain ⟨hP2, hD2⟩ := va_join (wr := []) (w1 := (wd_82cdd16b h0 h1 v0 t27 v2 t26 h1 g0 f4)) hP hD [0, 1] [] rfl rfl (by decide) (by decide) hk1 hFc hP1 hD1
                  clear hP hD hPc hDc hKc hFc hP1 hK1 hD1 hk1 hz1
                  generalize H1 = H at hP2 hS ⊢
                  have hP : va_P (dC, dI) vwCl (wd_82cdd16b h0 h1 v0 t27 v2 t26 h1 g0 f4) H := hP2
                  have hD : va_D A (wd_82cdd16b h0 h1 v0 t27 v2 t26 h1 g0 f4) := hD2
                  clear hP2 hD2
                  exfalso; omega
              · skip
                have fc30 : ¬ (ra29.toInt = 0) := fun h9 => c30 (Int32.toInt_inj.mp h9)
                exfalso; omega
            · skip
              obtain ⟨pt0_ra28, pt1_ra28, pt2_ra28, pt3_ra28, hP1, hK1, hD1⟩ := hB
              rw [ht] at hP1
              obtain ⟨hP2, hD2⟩ := va_join (wr := []) (w1 := (wd_82cdd16b h0 h1 v0 t27 v2 t26 h1 g0 f4)) hP hD [0, 1] [] rfl rfl (by decide) (by decide) hk1 hFc hP1 hD1
              clear hP hD hPc hDc hKc hFc hP1 hK1 hD1 hk1 hz1
              generalize H1 = H at hP2 hS ⊢
              have hP : va_P (dC, dI) vwCl (wd_82cdd16b h0 h1 v0 t27 v2 t26 h1 g0 f4) H := hP2
              have hD : va_D A (wd_82cdd16b h0 h1 v0 t27 v2 t26 h1 g0 f4) := hD2
              clear hP2 hD2
              have hPc := hP.sub (ws' := []) [] rfl
              have hDc := hD.sub (ws' := []) [] (by decide) rfl
              have hKc := hK.sub (tys' := []) [] rfl
              have hFc := va_free (wc := []) hD hS hA [] rfl
              refine va_calli (va_runS (As := [.int ra28]) (rest := []) ⟨hx, hb, hml, hown, hts⟩ (k_X10_isDigit l dC dI ra28  H.size) (va_cwS 1 hts g_X10_takeNumber_1 rfl rfl rfl (by decide +kernel) ⟨Nat.le_of_ble_eq_true rfl, Nat.le_of_ble_eq_true rfl⟩) (pv_PS hPc hKc hDc) rfl rfl hl.1 rfl (lv_room (Nat.le_of_ble_eq_true rfl)) dX10_takeNumber_31 ⟨Nat.le_of_ble_eq_true rfl, Nat.le_of_ble_eq_true rfl⟩) hS (fun q _ h => hFc q h) hFc (fun ra34 u t H1 locs ht hvm hwra34 hB hz1 hk1 hS => ?_)
              try rw [hwra34] at hB
              obtain ⟨pt0_ra34, pt1_ra34, pt2_ra34, pt3_ra34, pt4_ra34, hP1, hK1, hD1⟩ := hB
              rw [ht] at hP1
              obtain ⟨hP2, hD2⟩ := va_join (wr := (wd_82cdd16b h0 h1 v0 t27 v2 t26 h1 g0 f4)) (w1 := []) hP hD [] [0, 1] rfl rfl (by decide) (by decide) hk1 hFc hP1 hD1
              clear hP hD hPc hDc hKc hFc hP1 hK1 hD1 hk1 hz1
              generalize H1 = H at hP2 hS ⊢
              have hP : va_P (dC, dI) vwCl (wd_82cdd16b h0 h1 v0 t27 v2 t26 h1 g0 f4) H := hP2
              have hD : va_D A (wd_82cdd16b h0 h1 v0 t27 v2 t26 h1 g0 f4) := hD2
              clear hP2 hD2
              refine lv_if_eq (tgt := 72) hx hb dX10_takeNumber_34 (by decide) (fun c35 => ?_) (fun c35 => ?_)
              · skip
                have fc35 : ra34.toInt = 0 := congrArg Int32.toInt c35
                refine lv_aload_n hx hb dX10_takeNumber_72 rfl (lv_at hl 1 rfl) ?_
                have hPc := hP.sub (ws' := (wd_82cdd16b h0 h1 v0 t27 v2 t26 h1 g0 f4)) [0, 1] rfl
                have hDc := hD.sub (ws' := (wd_82cdd16b h0 h1 v0 t27 v2 t26 h1 g0 f4)) [0, 1] (by decide) rfl
                have hKc := hK.sub (tys' := [(g0, .int)]) [0] rfl
                have hFc := va_free (wc := (wd_82cdd16b h0 h1 v0 t27 v2 t26 h1 g0 f4)) hD hS hA [0, 1] rfl
                refine va_calli (va_runV (As := []) (rest := []) ⟨hx, hb, hml, hown, hts⟩ (k_X10_sign l dC dI h0 h1 v0 t27 v2 t26 g0 f4 ⟨i_v0a, i_v0b⟩ ⟨by first | omega | decide, by first | omega | decide⟩ ia_f4 H.size) (cwV 0 hts g_X10_takeNumber_4 rfl rfl rfl (by decide +kernel) ⟨Nat.le_of_ble_eq_true rfl, Nat.le_of_ble_eq_true rfl⟩) (pv_PV10 hPc hKc hDc (q0 := 0) rfl) rfl rfl hl.1 rfl (lv_room (Nat.le_of_ble_eq_true rfl)) dX10_takeNumber_73 ⟨Nat.le_of_ble_eq_true rfl, Nat.le_of_ble_eq_true rfl⟩) hS (fun q _ h => hFc q h) hFc (fun ra36 u t H1 locs ht hvm hwra36 hB hz1 hk1 hS => ?_)
                try rw [hwra36] at hB
                rcases hB with hB | hB
                · skip
                  obtain ⟨pt0_ra36, pt1_ra36, pt2_ra36, pt3_ra36, hP1, hK1, hD1⟩ := hB
                  rw [ht] at hP1
                  obtain ⟨hP2, hD2⟩ := va_join (wr := []) (w1 := (wd_82cdd16b h0 h1 v0 t27 v2 t26 h1 g0 f4)) hP hD [0, 1] [] rfl rfl (by decide) (by decide) hk1 hFc hP1 hD1
                  clear hP hD hPc hDc hKc hFc hP1 hK1 hD1 hk1 hz1
                  generalize H1 = H at hP2 hS ⊢
                  have hP : va_P (dC, dI) vwCl (wd_82cdd16b h0 h1 v0 t27 v2 t26 h1 g0 f4) H := hP2
                  have hD : va_D A (wd_82cdd16b h0 h1 v0 t27 v2 t26 h1 g0 f4) := hD2
                  clear hP2 hD2
                  obtain rfl : ra36 = ((-1) : Int32) := pv_cs (by decide) pt0_ra36 pt1_ra36
                  exfalso; omega
                · skip
                  obtain ⟨pt0_ra36, pt1_ra36, pt2_ra36, pt3_ra36, hP1, hK1, hD1⟩ := hB
                  rw [ht] at hP1
                  obtain ⟨hP2, hD2⟩ := va_join (wr := []) (w1 := (wd_82cdd16b h0 h1 v0 t27 v2 t26 h1 g0 f4)) hP hD [0, 1] [] rfl rfl (by decide) (by decide) hk1 hFc hP1 hD1
                  clear hP hD hPc hDc hKc hFc hP1 hK1 hD1 hk1 hz1
                  generalize H1 = H at hP2 hS ⊢
                  have hP : va_P (dC, dI) vwCl (wd_82cdd16b h0 h1 v0 t27 v2 t26 h1 g0 f4) H := hP2
                  have hD : va_D A (wd_82cdd16b h0 h1 v0 t27 v2 t26 h1 g0 f4) := hD2
                  clear hP2 hD2
                  have hPc := hP.sub (ws' := []) [] rfl
                  have hDc := hD.sub (ws' := []) [] (by decide) rfl
                  have hKc := hK.sub (tys' := []) [] rfl
                  have hFc := va_free (wc := []) hD hS hA [] rfl
                  refine va_calli (va_runS (As := [.int ra36]) (rest := []) ⟨hx, hb, hml, hown, hts⟩ (k_X10_isDigit l dC dI ra36  H.size) (va_cwS 1 hts g_X10_takeNumber_1 rfl rfl rfl (by decide +kernel) ⟨Nat.le_of_ble_eq_true rfl, Nat.le_of_ble_eq_true rfl⟩) (pv_PS hPc hKc hDc) rfl rfl hl.1 rfl (lv_room (Nat.le_of_ble_eq_true rfl)) dX10_takeNumber_76 ⟨Nat.le_of_ble_eq_true rfl, Nat.le_of_ble_eq_true rfl⟩) hS (fun q _ h => hFc q h) hFc (fun ra37 u t H1 locs ht hvm hwra37 hB hz1 hk1 hS => ?_)
                  try rw [hwra37] at hB
                  obtain ⟨pt0_ra37, pt1_ra37, pt2_ra37, pt3_ra37, pt4_ra37, hP1, hK1, hD1⟩ := hB
                  rw [ht] at hP1
                  obtain ⟨hP2, hD2⟩ := va_join (wr := (wd_82cdd16b h0 h1 v0 t27 v2 t26 h1 g0 f4)) (w1 := []) hP hD [] [0, 1] rfl rfl (by decide) (by decide) hk1 hFc hP1 hD1
                  clear hP hD hPc hDc hKc hFc hP1 hK1 hD1 hk1 hz1
                  generalize H1 = H at hP2 hS ⊢
                  have hP : va_P (dC, dI) vwCl (wd_82cdd16b h0 h1 v0 t27 v2 t26 h1 g0 f4) H := hP2
                  have hD : va_D A (wd_82cdd16b h0 h1 v0 t27 v2 t26 h1 g0 f4) := hD2
                  clear hP2 hD2
                  refine lv_if_eq (tgt := 89) hx hb dX10_takeNumber_79 (by decide) (fun c38 => ?_) (fun c38 => ?_)
                  · skip
                    have fc38 : ra37.toInt = 0 := congrArg Int32.toInt c38
                    refine lv_iconst (v := 1) hx hb dX10_takeNumber_89 (by decide) ?_
                    refine lv_goto (tgt := 94) hx hb dX10_takeNumber_90 (by decide) ?_
                    subst hQ
                    have hP9 := hP.sub (ws' := (wd_82cdd16b h0 h1 v0 t27 v2 t26 h1 g0 f4)) [0, 1] rfl
                    have hD9 := hD.sub (ws' := (wd_82cdd16b h0 h1 v0 t27 v2 t26 h1 g0 f4)) [0, 1] (by decide) rfl
                    have hK9 := hK.sub (tys' := []) [] rfl
                    exact W.zret (v := 1) hx hb hr rfl (fun t ht hW => ⟨⟨1, 1, rfl, rfl, Or.inl ⟨t27, t26, by first | omega | decide, by first | omega | decide, by first | omega | decide, by first | omega | decide, by first | omega | decide, by first | omega | decide, by omega, by first | exact hnm.trans (pg_nm.stop (by omega)) | (exfalso; omega), by rw [ht]; exact hP9, va_K.moved hW.alike hK9, hD9⟩⟩, hS.F ht⟩) hS.2.2 dX10_takeNumber_94
                  · skip
                    have fc38 : ¬ (ra37.toInt = 0) := fun h9 => c38 (Int32.toInt_inj.mp h9)
                    refine lv_aload_n hx hb dX10_takeNumber_82 rfl (lv_at hl 1 rfl) ?_
                    have hPc := hP.sub (ws' := (wd_09b0abee h0 h1 v0 t27 v2 t26)) [0] rfl
                    have hDc := hD.sub (ws' := (wd_09b0abee h0 h1 v0 t27 v2 t26)) [0] (by decide) rfl
                    have hKc := hK.sub (tys' := []) [] rfl
                    have hFc := va_free (wc := (wd_09b0abee h0 h1 v0 t27 v2 t26)) hD hS hA [0] rfl
                    refine va_calli (va_runV (As := []) (rest := []) ⟨hx, hb, hml, hown, hts⟩ (k_X10_wrongHere l dC dI h0 h1 v0 t27 v2 t26 ⟨i_v0a, i_v0b⟩ ⟨by first | omega | decide, by first | omega | decide⟩ H.size) (cwV 0 hts g_X10_takeNumber_2 rfl rfl rfl (by decide +kernel) ⟨Nat.le_of_ble_eq_true rfl, Nat.le_of_ble_eq_true rfl⟩) (pv_PV10 hPc hKc hDc (q0 := 0) rfl) rfl rfl hl.1 rfl (lv_room (Nat.le_of_ble_eq_true rfl)) dX10_takeNumber_83 ⟨Nat.le_of_ble_eq_true rfl, Nat.le_of_ble_eq_true rfl⟩) hS (fun q _ h => hFc q h) hFc (fun ra39 u t H1 locs ht hvm hwra39 hB hz1 hk1 hS => ?_)
                    try rw [hwra39] at hB
                    obtain ⟨x40, oa_x40, ob_x40, pt0_ra39, pt1_ra39, pt2_ra39, hP1, hK1, hD1⟩ := hB
                    rw [ht] at hP1
                    obtain ⟨hP2, hD2⟩ := va_join (wr := (wd_d0032b31 h1 g0 f4)) (w1 := (wd_09b0abee h0 h1 v0 t27 x40 t26)) hP hD [0] [1] rfl rfl (by decide) (by decide) hk1 hFc hP1 hD1
                    clear hP hD hPc hDc hKc hFc hP1 hK1 hD1 hk1 hz1
                    generalize H1 = H at hP2 hS ⊢
                    have hP := hP2.sub (ws' := (wd_82cdd16b h0 h1 v0 t27 x40 t26 h1 g0 f4)) [1, 0] rfl
                    have hD := hD2.sub (ws' := (wd_82cdd16b h0 h1 v0 t27 x40 t26 h1 g0 f4)) [1, 0] (by decide) rfl
                    clear hP2 hD2
                    obtain rfl : ra39 = (0 : Int32) := pv_cs (by decide) pt0_ra39 pt1_ra39
                    refine lv_if_eq (tgt := 93) hx hb dX10_takeNumber_86 (by decide) (fun _ => ?_) (fun c => absurd (by decide) c)
                    refine lv_iconst (v := 0) hx hb dX10_takeNumber_93 (by decide) ?_
                    subst hQ
                    have hP9 := hP.sub (ws' := (wd_82cdd16b h0 h1 v0 t27 x40 t26 h1 g0 f4)) [0, 1] rfl
                    have hD9 := hD.sub (ws' := (wd_82cdd16b h0 h1 v0 t27 x40 t26 h1 g0 f4)) [0, 1] (by decide) rfl
                    have hK9 := hK.sub (tys' := []) [] rfl
                    exact W.zret (v := 0) hx hb hr rfl (fun t ht hW => ⟨⟨0, 0, rfl, rfl, Or.inr (⟨t27, x40, t26, by first | omega | decide, by first | omega | decide, oa_x40, ob_x40, by first | omega | decide, by first | omega | decide, by omega, by first | exact Or.inr (hnm.trans (pg_nm.over (by omega) (by omega) (by omega))) | (apply pg_nm.nn <;> first | assumption | omega) | (exfalso; omega), by rw [ht]; exact hP9, va_K.moved hW.alike hK9, hD9⟩)⟩, hS.F ht⟩) hS.2.2 dX10_takeNumber_94
              · skip
                have fc35 : ¬ (ra34.toInt = 0) := fun h9 => c35 (Int32.toInt_inj.mp h9)
                refine lv_aload_n hx hb dX10_takeNumber_37 rfl (lv_at hl 1 rfl) ?_
                refine lv_aload_n hx hb dX10_takeNumber_38 rfl (lv_at hl 1 rfl) ?_
                refine va_get (D := (dC, dI)) (ci := 10) (v := .int t26) (C := RX10) (T := TX10) (N := 5) hx hb hts (fun _ h => List.mem_cons_of_mem _ (List.mem_append_right _ h)) hown hK hP 0 rfl rfl 4 (by decide) (hts (.fieldLink RX10 25 "LeftArguments$Tape" "number" "I") (List.mem_cons_of_mem _ (List.mem_append_left _ (List.mem_of_getElem? (i := 16) rfl)))) (fun _ h9 => h9) rfl dX10_takeNumber_39 ?_
                refine lv_bipush (v := 10) hx hb dX10_takeNumber_42 (by decide) ?_
                refine lv_imul hx hb dX10_takeNumber_44 ?_
                refine lv_topi (fun t41 et41 => ?_)
                have gt41 : t41.toInt = t26.toInt * 10 := pv_mul (a := t26.toInt) (b := 10) et41 rfl (by decide) (by omega) (by omega)
                refine lv_aload_n hx hb dX10_takeNumber_45 rfl (lv_at hl 1 rfl) ?_
                have hPc := hP.sub (ws' := (wd_82cdd16b h0 h1 v0 t27 v2 t26 h1 g0 f4)) [0, 1] rfl
                have hDc := hD.sub (ws' := (wd_82cdd16b h0 h1 v0 t27 v2 t26 h1 g0 f4)) [0, 1] (by decide) rfl
                have hKc := hK.sub (tys' := [(g0, .int)]) [0] rfl
                have hFc := va_free (wc := (wd_82cdd16b h0 h1 v0 t27 v2 t26 h1 g0 f4)) hD hS hA [0, 1] rfl
                refine va_calli (va_runV (As := []) (rest := [.int t41, .ref h0]) ⟨hx, hb, hml, hown, hts⟩ (k_X10_sign l dC dI h0 h1 v0 t27 v2 t26 g0 f4 ⟨i_v0a, i_v0b⟩ ⟨by first | omega | decide, by first | omega | decide⟩ ia_f4 H.size) (cwV 0 hts g_X10_takeNumber_4 rfl rfl rfl (by decide +kernel) ⟨Nat.le_of_ble_eq_true rfl, Nat.le_of_ble_eq_true rfl⟩) (pv_PV10 hPc hKc hDc (q0 := 0) rfl) rfl rfl hl.1 rfl (lv_room (Nat.le_of_ble_eq_true rfl)) dX10_takeNumber_46 ⟨Nat.le_of_ble_eq_true rfl, Nat.le_of_ble_eq_true rfl⟩) hS (fun q _ h => hFc q h) hFc (fun ra42 u t H1 locs ht hvm hwra42 hB hz1 hk1 hS => ?_)
                try rw [hwra42] at hB
                rcases hB with hB | hB
                · skip
                  obtain ⟨pt0_ra42, pt1_ra42, pt2_ra42, pt3_ra42, hP1, hK1, hD1⟩ := hB
                  rw [ht] at hP1
                  obtain ⟨hP2, hD2⟩ := va_join (wr := []) (w1 := (wd_82cdd16b h0 h1 v0 t27 v2 t26 h1 g0 f4)) hP hD [0, 1] [] rfl rfl (by decide) (by decide) hk1 hFc hP1 hD1
                  clear hP hD hPc hDc hKc hFc hP1 hK1 hD1 hk1 hz1
                  generalize H1 = H at hP2 hS ⊢
                  have hP : va_P (dC, dI) vwCl (wd_82cdd16b h0 h1 v0 t27 v2 t26 h1 g0 f4) H := hP2
                  have hD : va_D A (wd_82cdd16b h0 h1 v0 t27 v2 t26 h1 g0 f4) := hD2
                  clear hP2 hD2
                  obtain rfl : ra42 = ((-1) : Int32) := pv_cs (by decide) pt0_ra42 pt1_ra42
                  exfalso; omega
                · skip
                  obtain ⟨pt0_ra42, pt1_ra42, pt2_ra42, pt3_ra42, hP1, hK1, hD1⟩ := hB
                  rw [ht] at hP1
                  obtain ⟨hP2, hD2⟩ := va_join (wr := []) (w1 := (wd_82cdd16b h0 h1 v0 t27 v2 t26 h1 g0 f4)) hP hD [0, 1] [] rfl rfl (by decide) (by decide) hk1 hFc hP1 hD1
                  clear hP hD hPc hDc hKc hFc hP1 hK1 hD1 hk1 hz1
                  generalize H1 = H at hP2 hS ⊢
                  have hP : va_P (dC, dI) vwCl (wd_82cdd16b h0 h1 v0 t27 v2 t26 h1 g0 f4) H := hP2
                  have hD : va_D A (wd_82cdd16b h0 h1 v0 t27 v2 t26 h1 g0 f4) := hD2
                  clear hP2 hD2
                  refine lv_iadd hx hb dX10_takeNumber_49 ?_
                  refine lv_topi (fun t43 et43 => ?_)
                  have gt43 : t43.toInt = t41.toInt + ra42.toInt := pv_add (a := t41.toInt) (b := ra42.toInt) et43 rfl rfl (by omega) (by omega)
                  refine lv_bipush (v := 48) hx hb dX10_takeNumber_50 (by decide) ?_
                  refine lv_isub hx hb dX10_takeNumber_52 ?_
                  refine lv_topi (fun t44 et44 => ?_)
                  have gt44 : t44.toInt = t43.toInt - 48 := pv_sub (a := t43.toInt) (b := 48) et44 rfl (by decide) (by omega) (by omega)
                  refine va_put (D := (dC, dI)) (ci := 10) (v := .int t44) (ty := .int) (C := RX10) (T := TX10) (N := 5) hx hb hts (fun _ h => List.mem_cons_of_mem _ (List.mem_append_right _ h)) tyX10 tyX10_ok nmX10 hown hK hP hD hS 0 rfl rfl 4 (by decide) (hts (.fieldLink RX10 25 "LeftArguments$Tape" "number" "I") (List.mem_cons_of_mem _ (List.mem_append_left _ (List.mem_of_getElem? (i := 16) rfl)))) (fun _ h9 => h9) rfl (by decide +kernel) rfl rfl (Nat.le_of_ble_eq_true rfl) dX10_takeNumber_53 (fun H locs hP hD hS => ?_)
                  have hP : va_P (dC, dI) vwCl (wd_82cdd16b h0 h1 v0 t27 v2 t44 h1 g0 f4) H := hP
                  have hD : va_D A (wd_82cdd16b h0 h1 v0 t27 v2 t44 h1 g0 f4) := hD
                  refine lv_aload_n hx hb dX10_takeNumber_56 rfl (lv_at hl 1 rfl) ?_
                  refine lv_dup hx hb dX10_takeNumber_57 rfl ?_
                  refine va_get (D := (dC, dI)) (ci := 10) (v := .int t27) (C := RX10) (T := TX10) (N := 5) hx hb hts (fun _ h => List.mem_cons_of_mem _ (List.mem_append_right _ h)) hown hK hP 0 rfl rfl 2 (by decide) (hts (.fieldLink RX10 19 "LeftArguments$Tape" "at" "I") (List.mem_cons_of_mem _ (List.mem_append_left _ (List.mem_of_getElem? (i := 1) rfl)))) (fun _ h9 => h9) rfl dX10_takeNumber_58 ?_
                  refine lv_iconst (v := 1) hx hb dX10_takeNumber_61 (by decide) ?_
                  refine lv_iadd hx hb dX10_takeNumber_62 ?_
                  refine lv_topi (fun t45 et45 => ?_)
                  have gt45 : t45.toInt = t27.toInt + 1 := pv_add (a := t27.toInt) (b := 1) et45 rfl (by decide) (by omega) (by omega)
                  refine va_put (D := (dC, dI)) (ci := 10) (v := .int t45) (ty := .int) (C := RX10) (T := TX10) (N := 5) hx hb hts (fun _ h => List.mem_cons_of_mem _ (List.mem_append_right _ h)) tyX10 tyX10_ok nmX10 hown hK hP hD hS 0 rfl rfl 2 (by decide) (hts (.fieldLink RX10 19 "LeftArguments$Tape" "at" "I") (List.mem_cons_of_mem _ (List.mem_append_left _ (List.mem_of_getElem? (i := 1) rfl)))) (fun _ h9 => h9) rfl (by decide +kernel) rfl rfl (Nat.le_of_ble_eq_true rfl) dX10_takeNumber_63 (fun H locs hP hD hS => ?_)
                  have hP : va_P (dC, dI) vwCl (wd_82cdd16b h0 h1 v0 t45 v2 t44 h1 g0 f4) H := hP
                  have hD : va_D A (wd_82cdd16b h0 h1 v0 t45 v2 t44 h1 g0 f4) := hD
                  have hnm : pg_nm f4 v0.toInt 4 (pg_s f4 v0.toInt v1.toInt) = pg_nm f4 v0.toInt 2 t45.toInt := hnm.trans (pg_nm.step (by omega) (by omega) (by omega))
                  refine lv_iinc (v := 2) (lv' := [(2, .int 2), (0, .ref h0), (1, .int 4)]) hx hb dX10_takeNumber_66 hl (k := 0) rfl (by decide) (by decide) rfl (fun ls hl => ?_)
                  refine lv_goto (tgt := 22) hx hb dX10_takeNumber_69 (by decide) ?_
                  refine lv_iload_n hx hb dX10_takeNumber_22 rfl (lv_at hl 0 rfl) ?_
                  refine lv_iload_n hx hb dX10_takeNumber_23 rfl (lv_at hl 2 rfl) ?_
                  refine lv_icmp_ge (tgt := 72) hx hb dX10_takeNumber_24 (by decide) (fun c => absurd c (by decide)) (fun _ => ?_)
                  refine lv_aload_n hx hb dX10_takeNumber_27 rfl (lv_at hl 1 rfl) ?_
                  have hPc := hP.sub (ws' := (wd_82cdd16b h0 h1 v0 t45 v2 t44 h1 g0 f4)) [0, 1] rfl
                  have hDc := hD.sub (ws' := (wd_82cdd16b h0 h1 v0 t45 v2 t44 h1 g0 f4)) [0, 1] (by decide) rfl
                  have hKc := hK.sub (tys' := [(g0, .int)]) [0] rfl
                  have hFc := va_free (wc := (wd_82cdd16b h0 h1 v0 t45 v2 t44 h1 g0 f4)) hD hS hA [0, 1] rfl
                  refine va_calli (va_runV (As := []) (rest := []) ⟨hx, hb, hml, hown, hts⟩ (k_X10_sign l dC dI h0 h1 v0 t45 v2 t44 g0 f4 ⟨i_v0a, i_v0b⟩ ⟨by first | omega | decide, by first | omega | decide⟩ ia_f4 H.size) (cwV 0 hts g_X10_takeNumber_4 rfl rfl rfl (by decide +kernel) ⟨Nat.le_of_ble_eq_true rfl, Nat.le_of_ble_eq_true rfl⟩) (pv_PV10 hPc hKc hDc (q0 := 0) rfl) rfl rfl hl.1 rfl (lv_room (Nat.le_of_ble_eq_true rfl)) dX10_takeNumber_28 ⟨Nat.le_of_ble_eq_true rfl, Nat.le_of_ble_eq_true rfl⟩) hS (fun q _ h => hFc q h) hFc (fun ra46 u t H1 locs ht hvm hwra46 hB hz1 hk1 hS => ?_)
                  try rw [hwra46] at hB
                  rcases hB with hB | hB
                  · skip
                    obtain ⟨pt0_ra46, pt1_ra46, pt2_ra46, pt3_ra46, hP1, hK1, hD1⟩ := hB
                    rw [ht] at hP1
                    obtain ⟨hP2, hD2⟩ := va_join (wr := []) (w1 := (wd_82cdd16b h0 h1 v0 t45 v2 t44 h1 g0 f4)) hP hD [0, 1] [] rfl rfl (by decide) (by decide) hk1 hFc hP1 hD1
                    clear hP hD hPc hDc hKc hFc hP1 hK1 hD1 hk1 hz1
                    generalize H1 = H at hP2 hS ⊢
                    have hP : va_P (dC, dI) vwCl (wd_82cdd16b h0 h1 v0 t45 v2 t44 h1 g0 f4) H := hP2
                    have hD : va_D A (wd_82cdd16b h0 h1 v0 t45 v2 t44 h1 g0 f4) := hD2
                    clear hP2 hD2
                    obtain rfl : ra46 = ((-1) : Int32) := pv_cs (by decide) pt0_ra46 pt1_ra46
                    have hPc := hP.sub (ws' := []) [] rfl
                    have hDc := hD.sub (ws' := []) [] (by decide) rfl
                    have hKc := hK.sub (tys' := []) [] rfl
                    have hFc := va_free (wc := []) hD hS hA [] rfl
                    refine va_calli (va_runS (As := [.int (-1)]) (rest := []) ⟨hx, hb, hml, hown, hts⟩ (k_X10_isDigit l dC dI ((-1))  H.size) (va_cwS 1 hts g_X10_takeNumber_1 rfl rfl rfl (by decide +kernel) ⟨Nat.le_of_ble_eq_true rfl, Nat.le_of_ble_eq_true rfl⟩) (pv_PS hPc hKc hDc) rfl rfl hl.1 rfl (lv_room (Nat.le_of_ble_eq_true rfl)) dX10_takeNumber_31 ⟨Nat.le_of_ble_eq_true rfl, Nat.le_of_ble_eq_true rfl⟩) hS (fun q _ h => hFc q h) hFc (fun ra47 u t H1 locs ht hvm hwra47 hB hz1 hk1 hS => ?_)
                    try rw [hwra47] at hB
                    have hkra47_0 : (((-1) : Int32)).toInt = -1 := by decide
                    obtain ⟨pt0_ra47, pt1_ra47, pt2_ra47, pt3_ra47, pt4_ra47, hP1, hK1, hD1⟩ := hB
                    rw [ht] at hP1
                    obtain ⟨hP2, hD2⟩ := va_join (wr := (wd_82cdd16b h0 h1 v0 t45 v2 t44 h1 g0 f4)) (w1 := []) hP hD [] [0, 1] rfl rfl (by decide) (by decide) hk1 hFc hP1 hD1
                    clear hP hD hPc hDc hKc hFc hP1 hK1 hD1 hk1 hz1
                    generalize H1 = H at hP2 hS ⊢
                    have hP : va_P (dC, dI) vwCl (wd_82cdd16b h0 h1 v0 t45 v2 t44 h1 g0 f4) H := hP2
                    have hD : va_D A (wd_82cdd16b h0 h1 v0 t45 v2 t44 h1 g0 f4) := hD2
                    clear hP2 hD2
                    refine lv_if_eq (tgt := 72) hx hb dX10_takeNumber_34 (by decide) (fun c48 => ?_) (fun c48 => ?_)
                    · skip
                      have fc48 : ra47.toInt = 0 := congrArg Int32.toInt c48
                      refine lv_aload_n hx hb dX10_takeNumber_72 rfl (lv_at hl 1 rfl) ?_
                      have hPc := hP.sub (ws' := (wd_82cdd16b h0 h1 v0 t45 v2 t44 h1 g0 f4)) [0, 1] rfl
                      have hDc := hD.sub (ws' := (wd_82cdd16b h0 h1 v0 t45 v2 t44 h1 g0 f4)) [0, 1] (by decide) rfl
                      have hKc := hK.sub (tys' := [(g0, .int)]) [0] rfl
                      have hFc := va_free (wc := (wd_82cdd16b h0 h1 v0 t45 v2 t44 h1 g0 f4)) hD hS hA [0, 1] rfl
                      refine va_calli (va_runV (As := []) (rest := []) ⟨hx, hb, hml, hown, hts⟩ (k_X10_sign l dC dI h0 h1 v0 t45 v2 t44 g0 f4 ⟨i_v0a, i_v0b⟩ ⟨by first | omega | decide, by first | omega | decide⟩ ia_f4 H.size) (cwV 0 hts g_X10_takeNumber_4 rfl rfl rfl (by decide +kernel) ⟨Nat.le_of_ble_eq_true rfl, Nat.le_of_ble_eq_true rfl⟩) (pv_PV10 hPc hKc hDc (q0 := 0) rfl) rfl rfl hl.1 rfl (lv_room (Nat.le_of_ble_eq_true rfl)) dX10_takeNumber_73 ⟨Nat.le_of_ble_eq_true rfl, Nat.le_of_ble_eq_true rfl⟩) hS (fun q _ h => hFc q h) hFc (fun ra49 u t H1 locs ht hvm hwra49 hB hz1 hk1 hS => ?_)
                      try rw [hwra49] at hB
                      rcases hB with hB | hB
                      · skip
                        obtain ⟨pt0_ra49, pt1_ra49, pt2_ra49, pt3_ra49, hP1, hK1, hD1⟩ := hB
                        rw [ht] at hP1
                        obtain ⟨hP2, hD2⟩ := va_join (wr := []) (w1 := (wd_82cdd16b h0 h1 v0 t45 v2 t44 h1 g0 f4)) hP hD [0, 1] [] rfl rfl (by decide) (by decide) hk1 hFc hP1 hD1
                        clear hP hD hPc hDc hKc hFc hP1 hK1 hD1 hk1 hz1
                        generalize H1 = H at hP2 hS ⊢
                        have hP : va_P (dC, dI) vwCl (wd_82cdd16b h0 h1 v0 t45 v2 t44 h1 g0 f4) H := hP2
                        have hD : va_D A (wd_82cdd16b h0 h1 v0 t45 v2 t44 h1 g0 f4) := hD2
                        clear hP2 hD2
                        obtain rfl : ra49 = ((-1) : Int32) := pv_cs (by decide) pt0_ra49 pt1_ra49
                        have hPc := hP.sub (ws' := []) [] rfl
                        have hDc := hD.sub (ws' := []) [] (by decide) rfl
                        have hKc := hK.sub (tys' := []) [] rfl
                        have hFc := va_free (wc := []) hD hS hA [] rfl
                        refine va_calli (va_runS (As := [.int (-1)]) (rest := []) ⟨hx, hb, hml, hown, hts⟩ (k_X10_isDigit l dC dI ((-1))  H.size) (va_cwS 1 hts g_X10_takeNumber_1 rfl rfl rfl (by decide +kernel) ⟨Nat.le_of_ble_eq_true rfl, Nat.le_of_ble_eq_true rfl⟩) (pv_PS hPc hKc hDc) rfl rfl hl.1 rfl (lv_room (Nat.le_of_ble_eq_true rfl)) dX10_takeNumber_76 ⟨Nat.le_of_ble_eq_true rfl, Nat.le_of_ble_eq_true rfl⟩) hS (fun q _ h => hFc q h) hFc (fun ra50 u t H1 locs ht hvm hwra50 hB hz1 hk1 hS => ?_)
                        try rw [hwra50] at hB
                        have hkra50_0 : (((-1) : Int32)).toInt = -1 := by decide
                        obtain ⟨pt0_ra50, pt1_ra50, pt2_ra50, pt3_ra50, pt4_ra50, hP1, hK1, hD1⟩ := hB
                        rw [ht] at hP1
                        obtain ⟨hP2, hD2⟩ := va_join (wr := (wd_82cdd16b h0 h1 v0 t45 v2 t44 h1 g0 f4)) (w1 := []) hP hD [] [0, 1] rfl rfl (by decide) (by decide) hk1 hFc hP1 hD1
                        clear hP hD hPc hDc hKc hFc hP1 hK1 hD1 hk1 hz1
                        generalize H1 = H at hP2 hS ⊢
                        have hP : va_P (dC, dI) vwCl (wd_82cdd16b h0 h1 v0 t45 v2 t44 h1 g0 f4) H := hP2
                        have hD : va_D A (wd_82cdd16b h0 h1 v0 t45 v2 t44 h1 g0 f4) := hD2
                        clear hP2 hD2
                        refine lv_if_eq (tgt := 89) hx hb dX10_takeNumber_79 (by decide) (fun c51 => ?_) (fun c51 => ?_)
                        · skip
                          have fc51 : ra50.toInt = 0 := congrArg Int32.toInt c51
                          refine lv_iconst (v := 1) hx hb dX10_takeNumber_89 (by decide) ?_
                          refine lv_goto (tgt := 94) hx hb dX10_takeNumber_90 (by decide) ?_
                          subst hQ
                          have hP9 := hP.sub (ws' := (wd_82cdd16b h0 h1 v0 t45 v2 t44 h1 g0 f4)) [0, 1] rfl
                          have hD9 := hD.sub (ws' := (wd_82cdd16b h0 h1 v0 t45 v2 t44 h1 g0 f4)) [0, 1] (by decide) rfl
                          have hK9 := hK.sub (tys' := []) [] rfl
                          exact W.zret (v := 1) hx hb hr rfl (fun t ht hW => ⟨⟨1, 1, rfl, rfl, Or.inl ⟨t45, t44, by first | omega | decide, by first | omega | decide, by first | omega | decide, by first | omega | decide, by first | omega | decide, by first | omega | decide, by omega, by first | exact hnm.trans (pg_nm.stop (by omega)) | (exfalso; omega), by rw [ht]; exact hP9, va_K.moved hW.alike hK9, hD9⟩⟩, hS.F ht⟩) hS.2.2 dX10_takeNumber_94
                        · skip
                          have fc51 : ¬ (ra50.toInt = 0) := fun h9 => c51 (Int32.toInt_inj.mp h9)
                          exfalso; omega
                      · skip
                        obtain ⟨pt0_ra49, pt1_ra49, pt2_ra49, pt3_ra49, hP1, hK1, hD1⟩ := hB
                        rw [ht] at hP1
                        obtain ⟨hP2, hD2⟩ := va_join (wr := []) (w1 := (wd_82cdd16b h0 h1 v0 t45 v2 t44 h1 g0 f4)) hP hD [0, 1] [] rfl rfl (by decide) (by decide) hk1 hFc hP1 hD1
                        clear hP hD hPc hDc hKc hFc hP1 hK1 hD1 hk1 hz1
                        generalize H1 = H at hP2 hS ⊢
                        have hP : va_P (dC, dI) vwCl (wd_82cdd16b h0 h1 v0 t45 v2 t44 h1 g0 f4) H := hP2
                        have hD : va_D A (wd_82cdd16b h0 h1 v0 t45 v2 t44 h1 g0 f4) := hD2
                        clear hP2 hD2
                        exfalso; omega
                    · skip
                      have fc48 : ¬ (ra47.toInt = 0) := fun h9 => c48 (Int32.toInt_inj.mp h9)
                      exfalso; omega
                  · skip
                    obtain ⟨pt0_ra46, pt1_ra46, pt2_ra46, pt3_ra46, hP1, hK1, hD1⟩ := hB
                    rw [ht] at hP1
                    obtain ⟨hP2, hD2⟩ := va_join (wr := []) (w1 := (wd_82cdd16b h0 h1 v0 t45 v2 t44 h1 g0 f4)) hP hD [0, 1] [] rfl rfl (by decide) (by decide) hk1 hFc hP1 hD1
                    clear hP hD hPc hDc hKc hFc hP1 hK1 hD1 hk1 hz1
                    generalize H1 = H at hP2 hS ⊢
                    have hP : va_P (dC, dI) vwCl (wd_82cdd16b h0 h1 v0 t45 v2 t44 h1 g0 f4) H := hP2
                    have hD : va_D A (wd_82cdd16b h0 h1 v0 t45 v2 t44 h1 g0 f4) := hD2
                    clear hP2 hD2
                    have hPc := hP.sub (ws' := []) [] rfl
                    have hDc := hD.sub (ws' := []) [] (by decide) rfl
                    have hKc := hK.sub (tys' := []) [] rfl
                    have hFc := va_free (wc := []) hD hS hA [] rfl
                    refine va_calli (va_runS (As := [.int ra46]) (rest := []) ⟨hx, hb, hml, hown, hts⟩ (k_X10_isDigit l dC dI ra46  H.size) (va_cwS 1 hts g_X10_takeNumber_1 rfl rfl rfl (by decide +kernel) ⟨Nat.le_of_ble_eq_true rfl, Nat.le_of_ble_eq_true rfl⟩) (pv_PS hPc hKc hDc) rfl rfl hl.1 rfl (lv_room (Nat.le_of_ble_eq_true rfl)) dX10_takeNumber_31 ⟨Nat.le_of_ble_eq_true rfl, Nat.le_of_ble_eq_true rfl⟩) hS (fun q _ h => hFc q h) hFc (fun ra52 u t H1 locs ht hvm hwra52 hB hz1 hk1 hS => ?_)
                    try rw [hwra52] at hB
                    obtain ⟨pt0_ra52, pt1_ra52, pt2_ra52, pt3_ra52, pt4_ra52, hP1, hK1, hD1⟩ := hB
                    rw [ht] at hP1
                    obtain ⟨hP2, hD2⟩ := va_join (wr := (wd_82cdd16b h0 h1 v0 t45 v2 t44 h1 g0 f4)) (w1 := []) hP hD [] [0, 1] rfl rfl (by decide) (by decide) hk1 hFc hP1 hD1
                    clear hP hD hPc hDc hKc hFc hP1 hK1 hD1 hk1 hz1
                    generalize H1 = H at hP2 hS ⊢
                    have hP : va_P (dC, dI) vwCl (wd_82cdd16b h0 h1 v0 t45 v2 t44 h1 g0 f4) H := hP2
                    have hD : va_D A (wd_82cdd16b h0 h1 v0 t45 v2 t44 h1 g0 f4) := hD2
                    clear hP2 hD2
                    refine lv_if_eq (tgt := 72) hx hb dX10_takeNumber_34 (by decide) (fun c53 => ?_) (fun c53 => ?_)
                    · skip
                      have fc53 : ra52.toInt = 0 := congrArg Int32.toInt c53
                      refine lv_aload_n hx hb dX10_takeNumber_72 rfl (lv_at hl 1 rfl) ?_
                      have hPc := hP.sub (ws' := (wd_82cdd16b h0 h1 v0 t45 v2 t44 h1 g0 f4)) [0, 1] rfl
                      have hDc := hD.sub (ws' := (wd_82cdd16b h0 h1 v0 t45 v2 t44 h1 g0 f4)) [0, 1] (by decide) rfl
                      have hKc := hK.sub (tys' := [(g0, .int)]) [0] rfl
                      have hFc := va_free (wc := (wd_82cdd16b h0 h1 v0 t45 v2 t44 h1 g0 f4)) hD hS hA [0, 1] rfl
                      refine va_calli (va_runV (As := []) (rest := []) ⟨hx, hb, hml, hown, hts⟩ (k_X10_sign l dC dI h0 h1 v0 t45 v2 t44 g0 f4 ⟨i_v0a, i_v0b⟩ ⟨by first | omega | decide, by first | omega | decide⟩ ia_f4 H.size) (cwV 0 hts g_X10_takeNumber_4 rfl rfl rfl (by decide +kernel) ⟨Nat.le_of_ble_eq_true rfl, Nat.le_of_ble_eq_true rfl⟩) (pv_PV10 hPc hKc hDc (q0 := 0) rfl) rfl rfl hl.1 rfl (lv_room (Nat.le_of_ble_eq_true rfl)) dX10_takeNumber_73 ⟨Nat.le_of_ble_eq_true rfl, Nat.le_of_ble_eq_true rfl⟩) hS (fun q _ h => hFc q h) hFc (fun ra54 u t H1 locs ht hvm hwra54 hB hz1 hk1 hS => ?_)
                      try rw [hwra54] at hB
                      rcases hB with hB | hB
                      · skip
                        obtain ⟨pt0_ra54, pt1_ra54, pt2_ra54, pt3_ra54, hP1, hK1, hD1⟩ := hB
                        rw [ht] at hP1
                        obtain ⟨hP2, hD2⟩ := va_join (wr := []) (w1 := (wd_82cdd16b h0 h1 v0 t45 v2 t44 h1 g0 f4)) hP hD [0, 1] [] rfl rfl (by decide) (by decide) hk1 hFc hP1 hD1
                        clear hP hD hPc hDc hKc hFc hP1 hK1 hD1 hk1 hz1
                        generalize H1 = H at hP2 hS ⊢
                        have hP : va_P (dC, dI) vwCl (wd_82cdd16b h0 h1 v0 t45 v2 t44 h1 g0 f4) H := hP2
                        have hD : va_D A (wd_82cdd16b h0 h1 v0 t45 v2 t44 h1 g0 f4) := hD2
                        clear hP2 hD2
                        obtain rfl : ra54 = ((-1) : Int32) := pv_cs (by decide) pt0_ra54 pt1_ra54
                        exfalso; omega
                      · skip
                        obtain ⟨pt0_ra54, pt1_ra54, pt2_ra54, pt3_ra54, hP1, hK1, hD1⟩ := hB
                        rw [ht] at hP1
                        obtain ⟨hP2, hD2⟩ := va_join (wr := []) (w1 := (wd_82cdd16b h0 h1 v0 t45 v2 t44 h1 g0 f4)) hP hD [0, 1] [] rfl rfl (by decide) (by decide) hk1 hFc hP1 hD1
                        clear hP hD hPc hDc hKc hFc hP1 hK1 hD1 hk1 hz1
                        generalize H1 = H at hP2 hS ⊢
                        have hP : va_P (dC, dI) vwCl (wd_82cdd16b h0 h1 v0 t45 v2 t44 h1 g0 f4) H := hP2
                        have hD : va_D A (wd_82cdd16b h0 h1 v0 t45 v2 t44 h1 g0 f4) := hD2
                        clear hP2 hD2
                        have hPc := hP.sub (ws' := []) [] rfl
                        have hDc := hD.sub (ws' := []) [] (by decide) rfl
                        have hKc := hK.sub (tys' := []) [] rfl
                        have hFc := va_free (wc := []) hD hS hA [] rfl
                        refine va_calli (va_runS (As := [.int ra54]) (rest := []) ⟨hx, hb, hml, hown, hts⟩ (k_X10_isDigit l dC dI ra54  H.size) (va_cwS 1 hts g_X10_takeNumber_1 rfl rfl rfl (by decide +kernel) ⟨Nat.le_of_ble_eq_true rfl, Nat.le_of_ble_eq_true rfl⟩) (pv_PS hPc hKc hDc) rfl rfl hl.1 rfl (lv_room (Nat.le_of_ble_eq_true rfl)) dX10_takeNumber_76 ⟨Nat.le_of_ble_eq_true rfl, Nat.le_of_ble_eq_true rfl⟩) hS (fun q _ h => hFc q h) hFc (fun ra55 u t H1 locs ht hvm hwra55 hB hz1 hk1 hS => ?_)
                        try rw [hwra55] at hB
                        obtain ⟨pt0_ra55, pt1_ra55, pt2_ra55, pt3_ra55, pt4_ra55, hP1, hK1, hD1⟩ := hB
                        rw [ht] at hP1
                        obtain ⟨hP2, hD2⟩ := va_join (wr := (wd_82cdd16b h0 h1 v0 t45 v2 t44 h1 g0 f4)) (w1 := []) hP hD [] [0, 1] rfl rfl (by decide) (by decide) hk1 hFc hP1 hD1
                        clear hP hD hPc hDc hKc hFc hP1 hK1 hD1 hk1 hz1
                        generalize H1 = H at hP2 hS ⊢
                        have hP : va_P (dC, dI) vwCl (wd_82cdd16b h0 h1 v0 t45 v2 t44 h1 g0 f4) H := hP2
                        have hD : va_D A (wd_82cdd16b h0 h1 v0 t45 v2 t44 h1 g0 f4) := hD2
                        clear hP2 hD2
                        refine lv_if_eq (tgt := 89) hx hb dX10_takeNumber_79 (by decide) (fun c56 => ?_) (fun c56 => ?_)
                        · skip
                          have fc56 : ra55.toInt = 0 := congrArg Int32.toInt c56
                          refine lv_iconst (v := 1) hx hb dX10_takeNumber_89 (by decide) ?_
                          refine lv_goto (tgt := 94) hx hb dX10_takeNumber_90 (by decide) ?_
                          subst hQ
                          have hP9 := hP.sub (ws' := (wd_82cdd16b h0 h1 v0 t45 v2 t44 h1 g0 f4)) [0, 1] rfl
                          have hD9 := hD.sub (ws' := (wd_82cdd16b h0 h1 v0 t45 v2 t44 h1 g0 f4)) [0, 1] (by decide) rfl
                          have hK9 := hK.sub (tys' := []) [] rfl
                          exact W.zret (v := 1) hx hb hr rfl (fun t ht hW => ⟨⟨1, 1, rfl, rfl, Or.inl ⟨t45, t44, by first | omega | decide, by first | omega | decide, by first | omega | decide, by first | omega | decide, by first | omega | decide, by first | omega | decide, by omega, by first | exact hnm.trans (pg_nm.stop (by omega)) | (exfalso; omega), by rw [ht]; exact hP9, va_K.moved hW.alike hK9, hD9⟩⟩, hS.F ht⟩) hS.2.2 dX10_takeNumber_94
                        · skip
                          have fc56 : ¬ (ra55.toInt = 0) := fun h9 => c56 (Int32.toInt_inj.mp h9)
                          refine lv_aload_n hx hb dX10_takeNumber_82 rfl (lv_at hl 1 rfl) ?_
                          have hPc := hP.sub (ws' := (wd_09b0abee h0 h1 v0 t45 v2 t44)) [0] rfl
                          have hDc := hD.sub (ws' := (wd_09b0abee h0 h1 v0 t45 v2 t44)) [0] (by decide) rfl
                          have hKc := hK.sub (tys' := []) [] rfl
                          have hFc := va_free (wc := (wd_09b0abee h0 h1 v0 t45 v2 t44)) hD hS hA [0] rfl
                          refine va_calli (va_runV (As := []) (rest := []) ⟨hx, hb, hml, hown, hts⟩ (k_X10_wrongHere l dC dI h0 h1 v0 t45 v2 t44 ⟨i_v0a, i_v0b⟩ ⟨by first | omega | decide, by first | omega | decide⟩ H.size) (cwV 0 hts g_X10_takeNumber_2 rfl rfl rfl (by decide +kernel) ⟨Nat.le_of_ble_eq_true rfl, Nat.le_of_ble_eq_true rfl⟩) (pv_PV10 hPc hKc hDc (q0 := 0) rfl) rfl rfl hl.1 rfl (lv_room (Nat.le_of_ble_eq_true rfl)) dX10_takeNumber_83 ⟨Nat.le_of_ble_eq_true rfl, Nat.le_of_ble_eq_true rfl⟩) hS (fun q _ h => hFc q h) hFc (fun ra57 u t H1 locs ht hvm hwra57 hB hz1 hk1 hS => ?_)
                          try rw [hwra57] at hB
                          obtain ⟨x58, oa_x58, ob_x58, pt0_ra57, pt1_ra57, pt2_ra57, hP1, hK1, hD1⟩ := hB
                          rw [ht] at hP1
                          obtain ⟨hP2, hD2⟩ := va_join (wr := (wd_d0032b31 h1 g0 f4)) (w1 := (wd_09b0abee h0 h1 v0 t45 x58 t44)) hP hD [0] [1] rfl rfl (by decide) (by decide) hk1 hFc hP1 hD1
                          clear hP hD hPc hDc hKc hFc hP1 hK1 hD1 hk1 hz1
                          generalize H1 = H at hP2 hS ⊢
                          have hP := hP2.sub (ws' := (wd_82cdd16b h0 h1 v0 t45 x58 t44 h1 g0 f4)) [1, 0] rfl
                          have hD := hD2.sub (ws' := (wd_82cdd16b h0 h1 v0 t45 x58 t44 h1 g0 f4)) [1, 0] (by decide) rfl
                          clear hP2 hD2
                          obtain rfl : ra57 = (0 : Int32) := pv_cs (by decide) pt0_ra57 pt1_ra57
                          refine lv_if_eq (tgt := 93) hx hb dX10_takeNumber_86 (by decide) (fun _ => ?_) (fun c => absurd (by decide) c)
                          refine lv_iconst (v := 0) hx hb dX10_takeNumber_93 (by decide) ?_
                          subst hQ
                          have hP9 := hP.sub (ws' := (wd_82cdd16b h0 h1 v0 t45 x58 t44 h1 g0 f4)) [0, 1] rfl
                          have hD9 := hD.sub (ws' := (wd_82cdd16b h0 h1 v0 t45 x58 t44 h1 g0 f4)) [0, 1] (by decide) rfl
                          have hK9 := hK.sub (tys' := []) [] rfl
                          exact W.zret (v := 0) hx hb hr rfl (fun t ht hW => ⟨⟨0, 0, rfl, rfl, Or.inr (⟨t45, x58, t44, by first | omega | decide, by first | omega | decide, oa_x58, ob_x58, by first | omega | decide, by first | omega | decide, by omega, by first | exact Or.inr (hnm.trans (pg_nm.over (by omega) (by omega) (by omega))) | (apply pg_nm.nn <;> first | assumption | omega) | (exfalso; omega), by rw [ht]; exact hP9, va_K.moved hW.alike hK9, hD9⟩)⟩, hS.F ht⟩) hS.2.2 dX10_takeNumber_94
                    · skip
                      have fc53 : ¬ (ra52.toInt = 0) := fun h9 => c53 (Int32.toInt_inj.mp h9)
                      refine lv_aload_n hx hb dX10_takeNumber_37 rfl (lv_at hl 1 rfl) ?_
                      refine lv_aload_n hx hb dX10_takeNumber_38 rfl (lv_at hl 1 rfl) ?_
                      refine va_get (D := (dC, dI)) (ci := 10) (v := .int t44) (C := RX10) (T := TX10) (N := 5) hx hb hts (fun _ h => List.mem_cons_of_mem _ (List.mem_append_right _ h)) hown hK hP 0 rfl rfl 4 (by decide) (hts (.fieldLink RX10 25 "LeftArguments$Tape" "number" "I") (List.mem_cons_of_mem _ (List.mem_append_left _ (List.mem_of_getElem? (i := 16) rfl)))) (fun _ h9 => h9) rfl dX10_takeNumber_39 ?_
                      refine lv_bipush (v := 10) hx hb dX10_takeNumber_42 (by decide) ?_
                      refine lv_imul hx hb dX10_takeNumber_44 ?_
                      refine lv_topi (fun t59 et59 => ?_)
                      have gt59 : t59.toInt = t44.toInt * 10 := pv_mul (a := t44.toInt) (b := 10) et59 rfl (by decide) (by omega) (by omega)
                      refine lv_aload_n hx hb dX10_takeNumber_45 rfl (lv_at hl 1 rfl) ?_
                      have hPc := hP.sub (ws' := (wd_82cdd16b h0 h1 v0 t45 v2 t44 h1 g0 f4)) [0, 1] rfl
                      have hDc := hD.sub (ws' := (wd_82cdd16b h0 h1 v0 t45 v2 t44 h1 g0 f4)) [0, 1] (by decide) rfl
                      have hKc := hK.sub (tys' := [(g0, .int)]) [0] rfl
                      have hFc := va_free (wc := (wd_82cdd16b h0 h1 v0 t45 v2 t44 h1 g0 f4)) hD hS hA [0, 1] rfl
                      refine va_calli (va_runV (As := []) (rest := [.int t59, .ref h0]) ⟨hx, hb, hml, hown, hts⟩ (k_X10_sign l dC dI h0 h1 v0 t45 v2 t44 g0 f4 ⟨i_v0a, i_v0b⟩ ⟨by first | omega | decide, by first | omega | decide⟩ ia_f4 H.size) (cwV 0 hts g_X10_takeNumber_4 rfl rfl rfl (by decide +kernel) ⟨Nat.le_of_ble_eq_true rfl, Nat.le_of_ble_eq_true rfl⟩) (pv_PV10 hPc hKc hDc (q0 := 0) rfl) rfl rfl hl.1 rfl (lv_room (Nat.le_of_ble_eq_true rfl)) dX10_takeNumber_46 ⟨Nat.le_of_ble_eq_true rfl, Nat.le_of_ble_eq_true rfl⟩) hS (fun q _ h => hFc q h) hFc (fun ra60 u t H1 locs ht hvm hwra60 hB hz1 hk1 hS => ?_)
                      try rw [hwra60] at hB
                      rcases hB with hB | hB
                      · skip
                        obtain ⟨pt0_ra60, pt1_ra60, pt2_ra60, pt3_ra60, hP1, hK1, hD1⟩ := hB
                        rw [ht] at hP1
                        obtain ⟨hP2, hD2⟩ := va_join (wr := []) (w1 := (wd_82cdd16b h0 h1 v0 t45 v2 t44 h1 g0 f4)) hP hD [0, 1] [] rfl rfl (by decide) (by decide) hk1 hFc hP1 hD1
                        clear hP hD hPc hDc hKc hFc hP1 hK1 hD1 hk1 hz1
                        generalize H1 = H at hP2 hS ⊢
                        have hP : va_P (dC, dI) vwCl (wd_82cdd16b h0 h1 v0 t45 v2 t44 h1 g0 f4) H := hP2
                        have hD : va_D A (wd_82cdd16b h0 h1 v0 t45 v2 t44 h1 g0 f4) := hD2
                        clear hP2 hD2
                        obtain rfl : ra60 = ((-1) : Int32) := pv_cs (by decide) pt0_ra60 pt1_ra60
                        exfalso; omega
                      · skip
                        obtain ⟨pt0_ra60, pt1_ra60, pt2_ra60, pt3_ra60, hP1, hK1, hD1⟩ := hB
                        rw [ht] at hP1
                        obtain ⟨hP2, hD2⟩ := va_join (wr := []) (w1 := (wd_82cdd16b h0 h1 v0 t45 v2 t44 h1 g0 f4)) hP hD [0, 1] [] rfl rfl (by decide) (by decide) hk1 hFc hP1 hD1
                        clear hP hD hPc hDc hKc hFc hP1 hK1 hD1 hk1 hz1
                        generalize H1 = H at hP2 hS ⊢
                        have hP : va_P (dC, dI) vwCl (wd_82cdd16b h0 h1 v0 t45 v2 t44 h1 g0 f4) H := hP2
                        have hD : va_D A (wd_82cdd16b h0 h1 v0 t45 v2 t44 h1 g0 f4) := hD2
                        clear hP2 hD2
                        refine lv_iadd hx hb dX10_takeNumber_49 ?_
                        refine lv_topi (fun t61 et61 => ?_)
                        have gt61 : t61.toInt = t59.toInt + ra60.toInt := pv_add (a := t59.toInt) (b := ra60.toInt) et61 rfl rfl (by omega) (by omega)
                        refine lv_bipush (v := 48) hx hb dX10_takeNumber_50 (by decide) ?_
                        refine lv_isub hx hb dX10_takeNumber_52 ?_
                        refine lv_topi (fun t62 et62 => ?_)
                        have gt62 : t62.toInt = t61.toInt - 48 := pv_sub (a := t61.toInt) (b := 48) et62 rfl (by decide) (by omega) (by omega)
                        refine va_put (D := (dC, dI)) (ci := 10) (v := .int t62) (ty := .int) (C := RX10) (T := TX10) (N := 5) hx hb hts (fun _ h => List.mem_cons_of_mem _ (List.mem_append_right _ h)) tyX10 tyX10_ok nmX10 hown hK hP hD hS 0 rfl rfl 4 (by decide) (hts (.fieldLink RX10 25 "LeftArguments$Tape" "number" "I") (List.mem_cons_of_mem _ (List.mem_append_left _ (List.mem_of_getElem? (i := 16) rfl)))) (fun _ h9 => h9) rfl (by decide +kernel) rfl rfl (Nat.le_of_ble_eq_true rfl) dX10_takeNumber_53 (fun H locs hP hD hS => ?_)
                        have hP : va_P (dC, dI) vwCl (wd_82cdd16b h0 h1 v0 t45 v2 t62 h1 g0 f4) H := hP
                        have hD : va_D A (wd_82cdd16b h0 h1 v0 t45 v2 t62 h1 g0 f4) := hD
                        refine lv_aload_n hx hb dX10_takeNumber_56 rfl (lv_at hl 1 rfl) ?_
                        refine lv_dup hx hb dX10_takeNumber_57 rfl ?_
                        refine va_get (D := (dC, dI)) (ci := 10) (v := .int t45) (C := RX10) (T := TX10) (N := 5) hx hb hts (fun _ h => List.mem_cons_of_mem _ (List.mem_append_right _ h)) hown hK hP 0 rfl rfl 2 (by decide) (hts (.fieldLink RX10 19 "LeftArguments$Tape" "at" "I") (List.mem_cons_of_mem _ (List.mem_append_left _ (List.mem_of_getElem? (i := 1) rfl)))) (fun _ h9 => h9) rfl dX10_takeNumber_58 ?_
                        refine lv_iconst (v := 1) hx hb dX10_takeNumber_61 (by decide) ?_
                        refine lv_iadd hx hb dX10_takeNumber_62 ?_
                        refine lv_topi (fun t63 et63 => ?_)
                        have gt63 : t63.toInt = t45.toInt + 1 := pv_add (a := t45.toInt) (b := 1) et63 rfl (by decide) (by omega) (by omega)
                        refine va_put (D := (dC, dI)) (ci := 10) (v := .int t63) (ty := .int) (C := RX10) (T := TX10) (N := 5) hx hb hts (fun _ h => List.mem_cons_of_mem _ (List.mem_append_right _ h)) tyX10 tyX10_ok nmX10 hown hK hP hD hS 0 rfl rfl 2 (by decide) (hts (.fieldLink RX10 19 "LeftArguments$Tape" "at" "I") (List.mem_cons_of_mem _ (List.mem_append_left _ (List.mem_of_getElem? (i := 1) rfl)))) (fun _ h9 => h9) rfl (by decide +kernel) rfl rfl (Nat.le_of_ble_eq_true rfl) dX10_takeNumber_63 (fun H locs hP hD hS => ?_)
                        have hP : va_P (dC, dI) vwCl (wd_82cdd16b h0 h1 v0 t63 v2 t62 h1 g0 f4) H := hP
                        have hD : va_D A (wd_82cdd16b h0 h1 v0 t63 v2 t62 h1 g0 f4) := hD
                        have hnm : pg_nm f4 v0.toInt 4 (pg_s f4 v0.toInt v1.toInt) = pg_nm f4 v0.toInt 1 t63.toInt := hnm.trans (pg_nm.step (by omega) (by omega) (by omega))
                        refine lv_iinc (v := 3) (lv' := [(2, .int 3), (0, .ref h0), (1, .int 4)]) hx hb dX10_takeNumber_66 hl (k := 0) rfl (by decide) (by decide) rfl (fun ls hl => ?_)
                        refine lv_goto (tgt := 22) hx hb dX10_takeNumber_69 (by decide) ?_
                        refine lv_iload_n hx hb dX10_takeNumber_22 rfl (lv_at hl 0 rfl) ?_
                        refine lv_iload_n hx hb dX10_takeNumber_23 rfl (lv_at hl 2 rfl) ?_
                        refine lv_icmp_ge (tgt := 72) hx hb dX10_takeNumber_24 (by decide) (fun c => absurd c (by decide)) (fun _ => ?_)
                        refine lv_aload_n hx hb dX10_takeNumber_27 rfl (lv_at hl 1 rfl) ?_
                        have hPc := hP.sub (ws' := (wd_82cdd16b h0 h1 v0 t63 v2 t62 h1 g0 f4)) [0, 1] rfl
                        have hDc := hD.sub (ws' := (wd_82cdd16b h0 h1 v0 t63 v2 t62 h1 g0 f4)) [0, 1] (by decide) rfl
                        have hKc := hK.sub (tys' := [(g0, .int)]) [0] rfl
                        have hFc := va_free (wc := (wd_82cdd16b h0 h1 v0 t63 v2 t62 h1 g0 f4)) hD hS hA [0, 1] rfl
                        refine va_calli (va_runV (As := []) (rest := []) ⟨hx, hb, hml, hown, hts⟩ (k_X10_sign l dC dI h0 h1 v0 t63 v2 t62 g0 f4 ⟨i_v0a, i_v0b⟩ ⟨by first | omega | decide, by first | omega | decide⟩ ia_f4 H.size) (cwV 0 hts g_X10_takeNumber_4 rfl rfl rfl (by decide +kernel) ⟨Nat.le_of_ble_eq_true rfl, Nat.le_of_ble_eq_true rfl⟩) (pv_PV10 hPc hKc hDc (q0 := 0) rfl) rfl rfl hl.1 rfl (lv_room (Nat.le_of_ble_eq_true rfl)) dX10_takeNumber_28 ⟨Nat.le_of_ble_eq_true rfl, Nat.le_of_ble_eq_true rfl⟩) hS (fun q _ h => hFc q h) hFc (fun ra64 u t H1 locs ht hvm hwra64 hB hz1 hk1 hS => ?_)
                        try rw [hwra64] at hB
                        rcases hB with hB | hB
                        · skip
                          obtain ⟨pt0_ra64, pt1_ra64, pt2_ra64, pt3_ra64, hP1, hK1, hD1⟩ := hB
                          rw [ht] at hP1
                          obtain ⟨hP2, hD2⟩ := va_join (wr := []) (w1 := (wd_82cdd16b h0 h1 v0 t63 v2 t62 h1 g0 f4)) hP hD [0, 1] [] rfl rfl (by decide) (by decide) hk1 hFc hP1 hD1
                          clear hP hD hPc hDc hKc hFc hP1 hK1 hD1 hk1 hz1
                          generalize H1 = H at hP2 hS ⊢
                          have hP : va_P (dC, dI) vwCl (wd_82cdd16b h0 h1 v0 t63 v2 t62 h1 g0 f4) H := hP2
                          have hD : va_D A (wd_82cdd16b h0 h1 v0 t63 v2 t62 h1 g0 f4) := hD2
                          clear hP2 hD2
                          obtain rfl : ra64 = ((-1) : Int32) := pv_cs (by decide) pt0_ra64 pt1_ra64
                          have hPc := hP.sub (ws' := []) [] rfl
                          have hDc := hD.sub (ws' := []) [] (by decide) rfl
                          have hKc := hK.sub (tys' := []) [] rfl
                          have hFc := va_free (wc := []) hD hS hA [] rfl
                          refine va_calli (va_runS (As := [.int (-1)]) (rest := []) ⟨hx, hb, hml, hown, hts⟩ (k_X10_isDigit l dC dI ((-1))  H.size) (va_cwS 1 hts g_X10_takeNumber_1 rfl rfl rfl (by decide +kernel) ⟨Nat.le_of_ble_eq_true rfl, Nat.le_of_ble_eq_true rfl⟩) (pv_PS hPc hKc hDc) rfl rfl hl.1 rfl (lv_room (Nat.le_of_ble_eq_true rfl)) dX10_takeNumber_31 ⟨Nat.le_of_ble_eq_true rfl, Nat.le_of_ble_eq_true rfl⟩) hS (fun q _ h => hFc q h) hFc (fun ra65 u t H1 locs ht hvm hwra65 hB hz1 hk1 hS => ?_)
                          try rw [hwra65] at hB
                          have hkra65_0 : (((-1) : Int32)).toInt = -1 := by decide
                          obtain ⟨pt0_ra65, pt1_ra65, pt2_ra65, pt3_ra65, pt4_ra65, hP1, hK1, hD1⟩ := hB
                          rw [ht] at hP1
                          obtain ⟨hP2, hD2⟩ := va_join (wr := (wd_82cdd16b h0 h1 v0 t63 v2 t62 h1 g0 f4)) (w1 := []) hP hD [] [0, 1] rfl rfl (by decide) (by decide) hk1 hFc hP1 hD1
                          clear hP hD hPc hDc hKc hFc hP1 hK1 hD1 hk1 hz1
                          generalize H1 = H at hP2 hS ⊢
                          have hP : va_P (dC, dI) vwCl (wd_82cdd16b h0 h1 v0 t63 v2 t62 h1 g0 f4) H := hP2
                          have hD : va_D A (wd_82cdd16b h0 h1 v0 t63 v2 t62 h1 g0 f4) := hD2
                          clear hP2 hD2
                          refine lv_if_eq (tgt := 72) hx hb dX10_takeNumber_34 (by decide) (fun c66 => ?_) (fun c66 => ?_)
                          · skip
                            have fc66 : ra65.toInt = 0 := congrArg Int32.toInt c66
                            refine lv_aload_n hx hb dX10_takeNumber_72 rfl (lv_at hl 1 rfl) ?_
                            have hPc := hP.sub (ws' := (wd_82cdd16b h0 h1 v0 t63 v2 t62 h1 g0 f4)) [0, 1] rfl
                            have hDc := hD.sub (ws' := (wd_82cdd16b h0 h1 v0 t63 v2 t62 h1 g0 f4)) [0, 1] (by decide) rfl
                            have hKc := hK.sub (tys' := [(g0, .int)]) [0] rfl
                            have hFc := va_free (wc := (wd_82cdd16b h0 h1 v0 t63 v2 t62 h1 g0 f4)) hD hS hA [0, 1] rfl
                            refine va_calli (va_runV (As := []) (rest := []) ⟨hx, hb, hml, hown, hts⟩ (k_X10_sign l dC dI h0 h1 v0 t63 v2 t62 g0 f4 ⟨i_v0a, i_v0b⟩ ⟨by first | omega | decide, by first | omega | decide⟩ ia_f4 H.size) (cwV 0 hts g_X10_takeNumber_4 rfl rfl rfl (by decide +kernel) ⟨Nat.le_of_ble_eq_true rfl, Nat.le_of_ble_eq_true rfl⟩) (pv_PV10 hPc hKc hDc (q0 := 0) rfl) rfl rfl hl.1 rfl (lv_room (Nat.le_of_ble_eq_true rfl)) dX10_takeNumber_73 ⟨Nat.le_of_ble_eq_true rfl, Nat.le_of_ble_eq_true rfl⟩) hS (fun q _ h => hFc q h) hFc (fun ra67 u t H1 locs ht hvm hwra67 hB hz1 hk1 hS => ?_)
                            try rw [hwra67] at hB
                            rcases hB with hB | hB
                            · skip
                              obtain ⟨pt0_ra67, pt1_ra67, pt2_ra67, pt3_ra67, hP1, hK1, hD1⟩ := hB
                              rw [ht] at hP1
                              obtain ⟨hP2, hD2⟩ := va_join (wr := []) (w1 := (wd_82cdd16b h0 h1 v0 t63 v2 t62 h1 g0 f4)) hP hD [0, 1] [] rfl rfl (by decide) (by decide) hk1 hFc hP1 hD1
                              clear hP hD hPc hDc hKc hFc hP1 hK1 hD1 hk1 hz1
                              generalize H1 = H at hP2 hS ⊢
                              have hP : va_P (dC, dI) vwCl (wd_82cdd16b h0 h1 v0 t63 v2 t62 h1 g0 f4) H := hP2
                              have hD : va_D A (wd_82cdd16b h0 h1 v0 t63 v2 t62 h1 g0 f4) := hD2
                              clear hP2 hD2
                              obtain rfl : ra67 = ((-1) : Int32) := pv_cs (by decide) pt0_ra67 pt1_ra67
                              have hPc := hP.sub (ws' := []) [] rfl
                              have hDc := hD.sub (ws' := []) [] (by decide) rfl
                              have hKc := hK.sub (tys' := []) [] rfl
                              have hFc := va_free (wc := []) hD hS hA [] rfl
                              refine va_calli (va_runS (As := [.int (-1)]) (rest := []) ⟨hx, hb, hml, hown, hts⟩ (k_X10_isDigit l dC dI ((-1))  H.size) (va_cwS 1 hts g_X10_takeNumber_1 rfl rfl rfl (by decide +kernel) ⟨Nat.le_of_ble_eq_true rfl, Nat.le_of_ble_eq_true rfl⟩) (pv_PS hPc hKc hDc) rfl rfl hl.1 rfl (lv_room (Nat.le_of_ble_eq_true rfl)) dX10_takeNumber_76 ⟨Nat.le_of_ble_eq_true rfl, Nat.le_of_ble_eq_true rfl⟩) hS (fun q _ h => hFc q h) hFc (fun ra68 u t H1 locs ht hvm hwra68 hB hz1 hk1 hS => ?_)
                              try rw [hwra68] at hB
                              have hkra68_0 : (((-1) : Int32)).toInt = -1 := by decide
                              obtain ⟨pt0_ra68, pt1_ra68, pt2_ra68, pt3_ra68, pt4_ra68, hP1, hK1, hD1⟩ := hB
                              rw [ht] at hP1
                              obtain ⟨hP2, hD2⟩ := va_join (wr := (wd_82cdd16b h0 h1 v0 t63 v2 t62 h1 g0 f4)) (w1 := []) hP hD [] [0, 1] rfl rfl (by decide) (by decide) hk1 hFc hP1 hD1
                              clear hP hD hPc hDc hKc hFc hP1 hK1 hD1 hk1 hz1
                              generalize H1 = H at hP2 hS ⊢
                              have hP : va_P (dC, dI) vwCl (wd_82cdd16b h0 h1 v0 t63 v2 t62 h1 g0 f4) H := hP2
                              have hD : va_D A (wd_82cdd16b h0 h1 v0 t63 v2 t62 h1 g0 f4) := hD2
                              clear hP2 hD2
                              refine lv_if_eq (tgt := 89) hx hb dX10_takeNumber_79 (by decide) (fun c69 => ?_) (fun c69 => ?_)
                              · skip
                                have fc69 : ra68.toInt = 0 := congrArg Int32.toInt c69
                                refine lv_iconst (v := 1) hx hb dX10_takeNumber_89 (by decide) ?_
                                refine lv_goto (tgt := 94) hx hb dX10_takeNumber_90 (by decide) ?_
                                subst hQ
                                have hP9 := hP.sub (ws' := (wd_82cdd16b h0 h1 v0 t63 v2 t62 h1 g0 f4)) [0, 1] rfl
                                have hD9 := hD.sub (ws' := (wd_82cdd16b h0 h1 v0 t63 v2 t62 h1 g0 f4)) [0, 1] (by decide) rfl
                                have hK9 := hK.sub (tys' := []) [] rfl
                                exact W.zret (v := 1) hx hb hr rfl (fun t ht hW => ⟨⟨1, 1, rfl, rfl, Or.inl ⟨t63, t62, by first | omega | decide, by first | omega | decide, by first | omega | decide, by first | omega | decide, by first | omega | decide, by first | omega | decide, by omega, by first | exact hnm.trans (pg_nm.stop (by omega)) | (exfalso; omega), by rw [ht]; exact hP9, va_K.moved hW.alike hK9, hD9⟩⟩, hS.F ht⟩) hS.2.2 dX10_takeNumber_94
                              · skip
                                have fc69 : ¬ (ra68.toInt = 0) := fun h9 => c69 (Int32.toInt_inj.mp h9)
                                exfalso; omega
                            · skip
                              obtain ⟨pt0_ra67, pt1_ra67, pt2_ra67, pt3_ra67, hP1, hK1, hD1⟩ := hB
                              rw [ht] at hP1
                              obtain ⟨hP2, hD2⟩ := va_join (wr := []) (w1 := (wd_82cdd16b h0 h1 v0 t63 v2 t62 h1 g0 f4)) hP hD [0, 1] [] rfl rfl (by decide) (by decide) hk1 hFc hP1 hD1
                              clear hP hD hPc hDc hKc hFc hP1 hK1 hD1 hk1 hz1
                              generalize H1 = H at hP2 hS ⊢
                              have hP : va_P (dC, dI) vwCl (wd_82cdd16b h0 h1 v0 t63 v2 t62 h1 g0 f4) H := hP2
                              have hD : va_D A (wd_82cdd16b h0 h1 v0 t63 v2 t62 h1 g0 f4) := hD2
                              clear hP2 hD2
                              exfalso; omega
                          · skip
                            have fc66 : ¬ (ra65.toInt = 0) := fun h9 => c66 (Int32.toInt_inj.mp h9)
                            exfalso; omega
                        · skip
                          obtain ⟨pt0_ra64, pt1_ra64, pt2_ra64, pt3_ra64, hP1, hK1, hD1⟩ := hB
                          rw [ht] at hP1
                          obtain ⟨hP2, hD2⟩ := va_join (wr := []) (w1 := (wd_82cdd16b h0 h1 v0 t63 v2 t62 h1 g0 f4)) hP hD [0, 1] [] rfl rfl (by decide) (by decide) hk1 hFc hP1 hD1
                          clear hP hD hPc hDc hKc hFc hP1 hK1 hD1 hk1 hz1
                          generalize H1 = H at hP2 hS ⊢
                          have hP : va_P (dC, dI) vwCl (wd_82cdd16b h0 h1 v0 t63 v2 t62 h1 g0 f4) H := hP2
                          have hD : va_D A (wd_82cdd16b h0 h1 v0 t63 v2 t62 h1 g0 f4) := hD2
                          clear hP2 hD2
                          have hPc := hP.sub (ws' := []) [] rfl
                          have hDc := hD.sub (ws' := []) [] (by decide) rfl
                          have hKc := hK.sub (tys' := []) [] rfl
                          have hFc := va_free (wc := []) hD hS hA [] rfl
                          refine va_calli (va_runS (As := [.int ra64]) (rest := []) ⟨hx, hb, hml, hown, hts⟩ (k_X10_isDigit l dC dI ra64  H.size) (va_cwS 1 hts g_X10_takeNumber_1 rfl rfl rfl (by decide +kernel) ⟨Nat.le_of_ble_eq_true rfl, Nat.le_of_ble_eq_true rfl⟩) (pv_PS hPc hKc hDc) rfl rfl hl.1 rfl (lv_room (Nat.le_of_ble_eq_true rfl)) dX10_takeNumber_31 ⟨Nat.le_of_ble_eq_true rfl, Nat.le_of_ble_eq_true rfl⟩) hS (fun q _ h => hFc q h) hFc (fun ra70 u t H1 locs ht hvm hwra70 hB hz1 hk1 hS => ?_)
                          try rw [hwra70] at hB
                          obtain ⟨pt0_ra70, pt1_ra70, pt2_ra70, pt3_ra70, pt4_ra70, hP1, hK1, hD1⟩ := hB
                          rw [ht] at hP1
                          obtain ⟨hP2, hD2⟩ := va_join (wr := (wd_82cdd16b h0 h1 v0 t63 v2 t62 h1 g0 f4)) (w1 := []) hP hD [] [0, 1] rfl rfl (by decide) (by decide) hk1 hFc hP1 hD1
                          clear hP hD hPc hDc hKc hFc hP1 hK1 hD1 hk1 hz1
                          generalize H1 = H at hP2 hS ⊢
                          have hP : va_P (dC, dI) vwCl (wd_82cdd16b h0 h1 v0 t63 v2 t62 h1 g0 f4) H := hP2
                          have hD : va_D A (wd_82cdd16b h0 h1 v0 t63 v2 t62 h1 g0 f4) := hD2
                          clear hP2 hD2
                          refine lv_if_eq (tgt := 72) hx hb dX10_takeNumber_34 (by decide) (fun c71 => ?_) (fun c71 => ?_)
                          · skip
                            have fc71 : ra70.toInt = 0 := congrArg Int32.toInt c71
                            refine lv_aload_n hx hb dX10_takeNumber_72 rfl (lv_at hl 1 rfl) ?_
                            have hPc := hP.sub (ws' := (wd_82cdd16b h0 h1 v0 t63 v2 t62 h1 g0 f4)) [0, 1] rfl
                            have hDc := hD.sub (ws' := (wd_82cdd16b h0 h1 v0 t63 v2 t62 h1 g0 f4)) [0, 1] (by decide) rfl
                            have hKc := hK.sub (tys' := [(g0, .int)]) [0] rfl
                            have hFc := va_free (wc := (wd_82cdd16b h0 h1 v0 t63 v2 t62 h1 g0 f4)) hD hS hA [0, 1] rfl
                            refine va_calli (va_runV (As := []) (rest := []) ⟨hx, hb, hml, hown, hts⟩ (k_X10_sign l dC dI h0 h1 v0 t63 v2 t62 g0 f4 ⟨i_v0a, i_v0b⟩ ⟨by first | omega | decide, by first | omega | decide⟩ ia_f4 H.size) (cwV 0 hts g_X10_takeNumber_4 rfl rfl rfl (by decide +kernel) ⟨Nat.le_of_ble_eq_true rfl, Nat.le_of_ble_eq_true rfl⟩) (pv_PV10 hPc hKc hDc (q0 := 0) rfl) rfl rfl hl.1 rfl (lv_room (Nat.le_of_ble_eq_true rfl)) dX10_takeNumber_73 ⟨Nat.le_of_ble_eq_true rfl, Nat.le_of_ble_eq_true rfl⟩) hS (fun q _ h => hFc q h) hFc (fun ra72 u t H1 locs ht hvm hwra72 hB hz1 hk1 hS => ?_)
                            try rw [hwra72] at hB
                            rcases hB with hB | hB
                            · skip
                              obtain ⟨pt0_ra72, pt1_ra72, pt2_ra72, pt3_ra72, hP1, hK1, hD1⟩ := hB
                              rw [ht] at hP1
                              obtain ⟨hP2, hD2⟩ := va_join (wr := []) (w1 := (wd_82cdd16b h0 h1 v0 t63 v2 t62 h1 g0 f4)) hP hD [0, 1] [] rfl rfl (by decide) (by decide) hk1 hFc hP1 hD1
                              clear hP hD hPc hDc hKc hFc hP1 hK1 hD1 hk1 hz1
                              generalize H1 = H at hP2 hS ⊢
                              have hP : va_P (dC, dI) vwCl (wd_82cdd16b h0 h1 v0 t63 v2 t62 h1 g0 f4) H := hP2
                              have hD : va_D A (wd_82cdd16b h0 h1 v0 t63 v2 t62 h1 g0 f4) := hD2
                              clear hP2 hD2
                              obtain rfl : ra72 = ((-1) : Int32) := pv_cs (by decide) pt0_ra72 pt1_ra72
                              exfalso; omega
                            · skip
                              obtain ⟨pt0_ra72, pt1_ra72, pt2_ra72, pt3_ra72, hP1, hK1, hD1⟩ := hB
                              rw [ht] at hP1
                              obtain ⟨hP2, hD2⟩ := va_join (wr := []) (w1 := (wd_82cdd16b h0 h1 v0 t63 v2 t62 h1 g0 f4)) hP hD [0, 1] [] rfl rfl (by decide) (by decide) hk1 hFc hP1 hD1
                              clear hP hD hPc hDc hKc hFc hP1 hK1 hD1 hk1 hz1
                              generalize H1 = H at hP2 hS ⊢
                              have hP : va_P (dC, dI) vwCl (wd_82cdd16b h0 h1 v0 t63 v2 t62 h1 g0 f4) H := hP2
                              have hD : va_D A (wd_82cdd16b h0 h1 v0 t63 v2 t62 h1 g0 f4) := hD2
                              clear hP2 hD2
                              have hPc := hP.sub (ws' := []) [] rfl
                              have hDc := hD.sub (ws' := []) [] (by decide) rfl
                              have hKc := hK.sub (tys' := []) [] rfl
                              have hFc := va_free (wc := []) hD hS hA [] rfl
                              refine va_calli (va_runS (As := [.int ra72]) (rest := []) ⟨hx, hb, hml, hown, hts⟩ (k_X10_isDigit l dC dI ra72  H.size) (va_cwS 1 hts g_X10_takeNumber_1 rfl rfl rfl (by decide +kernel) ⟨Nat.le_of_ble_eq_true rfl, Nat.le_of_ble_eq_true rfl⟩) (pv_PS hPc hKc hDc) rfl rfl hl.1 rfl (lv_room (Nat.le_of_ble_eq_true rfl)) dX10_takeNumber_76 ⟨Nat.le_of_ble_eq_true rfl, Nat.le_of_ble_eq_true rfl⟩) hS (fun q _ h => hFc q h) hFc (fun ra73 u t H1 locs ht hvm hwra73 hB hz1 hk1 hS => ?_)
                              try rw [hwra73] at hB
                              obtain ⟨pt0_ra73, pt1_ra73, pt2_ra73, pt3_ra73, pt4_ra73, hP1, hK1, hD1⟩ := hB
                              rw [ht] at hP1
                              obtain ⟨hP2, hD2⟩ := va_join (wr := (wd_82cdd16b h0 h1 v0 t63 v2 t62 h1 g0 f4)) (w1 := []) hP hD [] [0, 1] rfl rfl (by decide) (by decide) hk1 hFc hP1 hD1
                              clear hP hD hPc hDc hKc hFc hP1 hK1 hD1 hk1 hz1
                              generalize H1 = H at hP2 hS ⊢
                              have hP : va_P (dC, dI) vwCl (wd_82cdd16b h0 h1 v0 t63 v2 t62 h1 g0 f4) H := hP2
                              have hD : va_D A (wd_82cdd16b h0 h1 v0 t63 v2 t62 h1 g0 f4) := hD2
                              clear hP2 hD2
                              refine lv_if_eq (tgt := 89) hx hb dX10_takeNumber_79 (by decide) (fun c74 => ?_) (fun c74 => ?_)
                              · skip
                                have fc74 : ra73.toInt = 0 := congrArg Int32.toInt c74
                                refine lv_iconst (v := 1) hx hb dX10_takeNumber_89 (by decide) ?_
                                refine lv_goto (tgt := 94) hx hb dX10_takeNumber_90 (by decide) ?_
                                subst hQ
                                have hP9 := hP.sub (ws' := (wd_82cdd16b h0 h1 v0 t63 v2 t62 h1 g0 f4)) [0, 1] rfl
                                have hD9 := hD.sub (ws' := (wd_82cdd16b h0 h1 v0 t63 v2 t62 h1 g0 f4)) [0, 1] (by decide) rfl
                                have hK9 := hK.sub (tys' := []) [] rfl
                                exact W.zret (v := 1) hx hb hr rfl (fun t ht hW => ⟨⟨1, 1, rfl, rfl, Or.inl ⟨t63, t62, by first | omega | decide, by first | omega | decide, by first | omega | decide, by first | omega | decide, by first | omega | decide, by first | omega | decide, by omega, by first | exact hnm.trans (pg_nm.stop (by omega)) | (exfalso; omega), by rw [ht]; exact hP9, va_K.moved hW.alike hK9, hD9⟩⟩, hS.F ht⟩) hS.2.2 dX10_takeNumber_94
                              · skip
                                have fc74 : ¬ (ra73.toInt = 0) := fun h9 => c74 (Int32.toInt_inj.mp h9)
                                refine lv_aload_n hx hb dX10_takeNumber_82 rfl (lv_at hl 1 rfl) ?_
                                have hPc := hP.sub (ws' := (wd_09b0abee h0 h1 v0 t63 v2 t62)) [0] rfl
                                have hDc := hD.sub (ws' := (wd_09b0abee h0 h1 v0 t63 v2 t62)) [0] (by decide) rfl
                                have hKc := hK.sub (tys' := []) [] rfl
                                have hFc := va_free (wc := (wd_09b0abee h0 h1 v0 t63 v2 t62)) hD hS hA [0] rfl
                                refine va_calli (va_runV (As := []) (rest := []) ⟨hx, hb, hml, hown, hts⟩ (k_X10_wrongHere l dC dI h0 h1 v0 t63 v2 t62 ⟨i_v0a, i_v0b⟩ ⟨by first | omega | decide, by first | omega | decide⟩ H.size) (cwV 0 hts g_X10_takeNumber_2 rfl rfl rfl (by decide +kernel) ⟨Nat.le_of_ble_eq_true rfl, Nat.le_of_ble_eq_true rfl⟩) (pv_PV10 hPc hKc hDc (q0 := 0) rfl) rfl rfl hl.1 rfl (lv_room (Nat.le_of_ble_eq_true rfl)) dX10_takeNumber_83 ⟨Nat.le_of_ble_eq_true rfl, Nat.le_of_ble_eq_true rfl⟩) hS (fun q _ h => hFc q h) hFc (fun ra75 u t H1 locs ht hvm hwra75 hB hz1 hk1 hS => ?_)
                                try rw [hwra75] at hB
                                obtain ⟨x76, oa_x76, ob_x76, pt0_ra75, pt1_ra75, pt2_ra75, hP1, hK1, hD1⟩ := hB
                                rw [ht] at hP1
                                obtain ⟨hP2, hD2⟩ := va_join (wr := (wd_d0032b31 h1 g0 f4)) (w1 := (wd_09b0abee h0 h1 v0 t63 x76 t62)) hP hD [0] [1] rfl rfl (by decide) (by decide) hk1 hFc hP1 hD1
                                clear hP hD hPc hDc hKc hFc hP1 hK1 hD1 hk1 hz1
                                generalize H1 = H at hP2 hS ⊢
                                have hP := hP2.sub (ws' := (wd_82cdd16b h0 h1 v0 t63 x76 t62 h1 g0 f4)) [1, 0] rfl
                                have hD := hD2.sub (ws' := (wd_82cdd16b h0 h1 v0 t63 x76 t62 h1 g0 f4)) [1, 0] (by decide) rfl
                                clear hP2 hD2
                                obtain rfl : ra75 = (0 : Int32) := pv_cs (by decide) pt0_ra75 pt1_ra75
                                refine lv_if_eq (tgt := 93) hx hb dX10_takeNumber_86 (by decide) (fun _ => ?_) (fun c => absurd (by decide) c)
                                refine lv_iconst (v := 0) hx hb dX10_takeNumber_93 (by decide) ?_
                                subst hQ
                                have hP9 := hP.sub (ws' := (wd_82cdd16b h0 h1 v0 t63 x76 t62 h1 g0 f4)) [0, 1] rfl
                                have hD9 := hD.sub (ws' := (wd_82cdd16b h0 h1 v0 t63 x76 t62 h1 g0 f4)) [0, 1] (by decide) rfl
                                have hK9 := hK.sub (tys' := []) [] rfl
                                exact W.zret (v := 0) hx hb hr rfl (fun t ht hW => ⟨⟨0, 0, rfl, rfl, Or.inr (⟨t63, x76, t62, by first | omega | decide, by first | omega | decide, oa_x76, ob_x76, by first | omega | decide, by first | omega | decide, by omega, by first | exact Or.inr (hnm.trans (pg_nm.over (by omega) (by omega) (by omega))) | (apply pg_nm.nn <;> first | assumption | omega) | (exfalso; omega), by rw [ht]; exact hP9, va_K.moved hW.alike hK9, hD9⟩)⟩, hS.F ht⟩) hS.2.2 dX10_takeNumber_94
                          · skip
                            have fc71 : ¬ (ra70.toInt = 0) := fun h9 => c71 (Int32.toInt_inj.mp h9)
                            refine lv_aload_n hx hb dX10_takeNumber_37 rfl (lv_at hl 1 rfl) ?_
                            refine lv_aload_n hx hb dX10_takeNumber_38 rfl (lv_at hl 1 rfl) ?_
                            refine va_get (D := (dC, dI)) (ci := 10) (v := .int t62) (C := RX10) (T := TX10) (N := 5) hx hb hts (fun _ h => List.mem_cons_of_mem _ (List.mem_append_right _ h)) hown hK hP 0 rfl rfl 4 (by decide) (hts (.fieldLink RX10 25 "LeftArguments$Tape" "number" "I") (List.mem_cons_of_mem _ (List.mem_append_left _ (List.mem_of_getElem? (i := 16) rfl)))) (fun _ h9 => h9) rfl dX10_takeNumber_39 ?_
                            refine lv_bipush (v := 10) hx hb dX10_takeNumber_42 (by decide) ?_
                            refine lv_imul hx hb dX10_takeNumber_44 ?_
                            refine lv_topi (fun t77 et77 => ?_)
                            have gt77 : t77.toInt = t62.toInt * 10 := pv_mul (a := t62.toInt) (b := 10) et77 rfl (by decide) (by omega) (by omega)
                            refine lv_aload_n hx hb dX10_takeNumber_45 rfl (lv_at hl 1 rfl) ?_
                            have hPc := hP.sub (ws' := (wd_82cdd16b h0 h1 v0 t63 v2 t62 h1 g0 f4)) [0, 1] rfl
                            have hDc := hD.sub (ws' := (wd_82cdd16b h0 h1 v0 t63 v2 t62 h1 g0 f4)) [0, 1] (by decide) rfl
                            have hKc := hK.sub (tys' := [(g0, .int)]) [0] rfl
                            have hFc := va_free (wc := (wd_82cdd16b h0 h1 v0 t63 v2 t62 h1 g0 f4)) hD hS hA [0, 1] rfl
                            refine va_calli (va_runV (As := []) (rest := [.int t77, .ref h0]) ⟨hx, hb, hml, hown, hts⟩ (k_X10_sign l dC dI h0 h1 v0 t63 v2 t62 g0 f4 ⟨i_v0a, i_v0b⟩ ⟨by first | omega | decide, by first | omega | decide⟩ ia_f4 H.size) (cwV 0 hts g_X10_takeNumber_4 rfl rfl rfl (by decide +kernel) ⟨Nat.le_of_ble_eq_true rfl, Nat.le_of_ble_eq_true rfl⟩) (pv_PV10 hPc hKc hDc (q0 := 0) rfl) rfl rfl hl.1 rfl (lv_room (Nat.le_of_ble_eq_true rfl)) dX10_takeNumber_46 ⟨Nat.le_of_ble_eq_true rfl, Nat.le_of_ble_eq_true rfl⟩) hS (fun q _ h => hFc q h) hFc (fun ra78 u t H1 locs ht hvm hwra78 hB hz1 hk1 hS => ?_)
                            try rw [hwra78] at hB
                            rcases hB with hB | hB
                            · skip
                              obtain ⟨pt0_ra78, pt1_ra78, pt2_ra78, pt3_ra78, hP1, hK1, hD1⟩ := hB
                              rw [ht] at hP1
                              obtain ⟨hP2, hD2⟩ := va_join (wr := []) (w1 := (wd_82cdd16b h0 h1 v0 t63 v2 t62 h1 g0 f4)) hP hD [0, 1] [] rfl rfl (by decide) (by decide) hk1 hFc hP1 hD1
                              clear hP hD hPc hDc hKc hFc hP1 hK1 hD1 hk1 hz1
                              generalize H1 = H at hP2 hS ⊢
                              have hP : va_P (dC, dI) vwCl (wd_82cdd16b h0 h1 v0 t63 v2 t62 h1 g0 f4) H := hP2
                              have hD : va_D A (wd_82cdd16b h0 h1 v0 t63 v2 t62 h1 g0 f4) := hD2
                              clear hP2 hD2
                              obtain rfl : ra78 = ((-1) : Int32) := pv_cs (by decide) pt0_ra78 pt1_ra78
                              exfalso; omega
                            · skip
                              obtain ⟨pt0_ra78, pt1_ra78, pt2_ra78, pt3_ra78, hP1, hK1, hD1⟩ := hB
                              rw [ht] at hP1
                              obtain ⟨hP2, hD2⟩ := va_join (wr := []) (w1 := (wd_82cdd16b h0 h1 v0 t63 v2 t62 h1 g0 f4)) hP hD [0, 1] [] rfl rfl (by decide) (by decide) hk1 hFc hP1 hD1
                              clear hP hD hPc hDc hKc hFc hP1 hK1 hD1 hk1 hz1
                              generalize H1 = H at hP2 hS ⊢
                              have hP : va_P (dC, dI) vwCl (wd_82cdd16b h0 h1 v0 t63 v2 t62 h1 g0 f4) H := hP2
                              have hD : va_D A (wd_82cdd16b h0 h1 v0 t63 v2 t62 h1 g0 f4) := hD2
                              clear hP2 hD2
                              refine lv_iadd hx hb dX10_takeNumber_49 ?_
                              refine lv_topi (fun t79 et79 => ?_)
                              have gt79 : t79.toInt = t77.toInt + ra78.toInt := pv_add (a := t77.toInt) (b := ra78.toInt) et79 rfl rfl (by omega) (by omega)
                              refine lv_bipush (v := 48) hx hb dX10_takeNumber_50 (by decide) ?_
                              refine lv_isub hx hb dX10_takeNumber_52 ?_
                              refine lv_topi (fun t80 et80 => ?_)
                              have gt80 : t80.toInt = t79.toInt - 48 := pv_sub (a := t79.toInt) (b := 48) et80 rfl (by decide) (by omega) (by omega)
                              refine va_put (D := (dC, dI)) (ci := 10) (v := .int t80) (ty := .int) (C := RX10) (T := TX10) (N := 5) hx hb hts (fun _ h => List.mem_cons_of_mem _ (List.mem_append_right _ h)) tyX10 tyX10_ok nmX10 hown hK hP hD hS 0 rfl rfl 4 (by decide) (hts (.fieldLink RX10 25 "LeftArguments$Tape" "number" "I") (List.mem_cons_of_mem _ (List.mem_append_left _ (List.mem_of_getElem? (i := 16) rfl)))) (fun _ h9 => h9) rfl (by decide +kernel) rfl rfl (Nat.le_of_ble_eq_true rfl) dX10_takeNumber_53 (fun H locs hP hD hS => ?_)
                              have hP : va_P (dC, dI) vwCl (wd_82cdd16b h0 h1 v0 t63 v2 t80 h1 g0 f4) H := hP
                              have hD : va_D A (wd_82cdd16b h0 h1 v0 t63 v2 t80 h1 g0 f4) := hD
                              refine lv_aload_n hx hb dX10_takeNumber_56 rfl (lv_at hl 1 rfl) ?_
                              refine lv_dup hx hb dX10_takeNumber_57 rfl ?_
                              refine va_get (D := (dC, dI)) (ci := 10) (v := .int t63) (C := RX10) (T := TX10) (N := 5) hx hb hts (fun _ h => List.mem_cons_of_mem _ (List.mem_append_right _ h)) hown hK hP 0 rfl rfl 2 (by decide) (hts (.fieldLink RX10 19 "LeftArguments$Tape" "at" "I") (List.mem_cons_of_mem _ (List.mem_append_left _ (List.mem_of_getElem? (i := 1) rfl)))) (fun _ h9 => h9) rfl dX10_takeNumber_58 ?_
                              refine lv_iconst (v := 1) hx hb dX10_takeNumber_61 (by decide) ?_
                              refine lv_iadd hx hb dX10_takeNumber_62 ?_
                              refine lv_topi (fun t81 et81 => ?_)
                              have gt81 : t81.toInt = t63.toInt + 1 := pv_add (a := t63.toInt) (b := 1) et81 rfl (by decide) (by omega) (by omega)
                              refine va_put (D := (dC, dI)) (ci := 10) (v := .int t81) (ty := .int) (C := RX10) (T := TX10) (N := 5) hx hb hts (fun _ h => List.mem_cons_of_mem _ (List.mem_append_right _ h)) tyX10 tyX10_ok nmX10 hown hK hP hD hS 0 rfl rfl 2 (by decide) (hts (.fieldLink RX10 19 "LeftArguments$Tape" "at" "I") (List.mem_cons_of_mem _ (List.mem_append_left _ (List.mem_of_getElem? (i := 1) rfl)))) (fun _ h9 => h9) rfl (by decide +kernel) rfl rfl (Nat.le_of_ble_eq_true rfl) dX10_takeNumber_63 (fun H locs hP hD hS => ?_)
                              have hP : va_P (dC, dI) vwCl (wd_82cdd16b h0 h1 v0 t81 v2 t80 h1 g0 f4) H := hP
                              have hD : va_D A (wd_82cdd16b h0 h1 v0 t81 v2 t80 h1 g0 f4) := hD
                              have hnm : pg_nm f4 v0.toInt 4 (pg_s f4 v0.toInt v1.toInt) = pg_nm f4 v0.toInt 0 t81.toInt := hnm.trans (pg_nm.step (by omega) (by omega) (by omega))
                              refine lv_iinc (v := 4) (lv' := [(2, .int 4), (0, .ref h0), (1, .int 4)]) hx hb dX10_takeNumber_66 hl (k := 0) rfl (by decide) (by decide) rfl (fun ls hl => ?_)
                              refine lv_goto (tgt := 22) hx hb dX10_takeNumber_69 (by decide) ?_
                              refine lv_iload_n hx hb dX10_takeNumber_22 rfl (lv_at hl 0 rfl) ?_
                              refine lv_iload_n hx hb dX10_takeNumber_23 rfl (lv_at hl 2 rfl) ?_
                              refine lv_icmp_ge (tgt := 72) hx hb dX10_takeNumber_24 (by decide) (fun _ => ?_) (fun c => absurd (by decide) c)
                              refine lv_aload_n hx hb dX10_takeNumber_72 rfl (lv_at hl 1 rfl) ?_
                              have hPc := hP.sub (ws' := (wd_82cdd16b h0 h1 v0 t81 v2 t80 h1 g0 f4)) [0, 1] rfl
                              have hDc := hD.sub (ws' := (wd_82cdd16b h0 h1 v0 t81 v2 t80 h1 g0 f4)) [0, 1] (by decide) rfl
                              have hKc := hK.sub (tys' := [(g0, .int)]) [0] rfl
                              have hFc := va_free (wc := (wd_82cdd16b h0 h1 v0 t81 v2 t80 h1 g0 f4)) hD hS hA [0, 1] rfl
                              refine va_calli (va_runV (As := []) (rest := []) ⟨hx, hb, hml, hown, hts⟩ (k_X10_sign l dC dI h0 h1 v0 t81 v2 t80 g0 f4 ⟨i_v0a, i_v0b⟩ ⟨by first | omega | decide, by first | omega | decide⟩ ia_f4 H.size) (cwV 0 hts g_X10_takeNumber_4 rfl rfl rfl (by decide +kernel) ⟨Nat.le_of_ble_eq_true rfl, Nat.le_of_ble_eq_true rfl⟩) (pv_PV10 hPc hKc hDc (q0 := 0) rfl) rfl rfl hl.1 rfl (lv_room (Nat.le_of_ble_eq_true rfl)) dX10_takeNumber_73 ⟨Nat.le_of_ble_eq_true rfl, Nat.le_of_ble_eq_true rfl⟩) hS (fun q _ h => hFc q h) hFc (fun ra82 u t H1 locs ht hvm hwra82 hB hz1 hk1 hS => ?_)
                              try rw [hwra82] at hB
                              rcases hB with hB | hB
                              · skip
                                obtain ⟨pt0_ra82, pt1_ra82, pt2_ra82, pt3_ra82, hP1, hK1, hD1⟩ := hB
                                rw [ht] at hP1
                                obtain ⟨hP2, hD2⟩ := va_join (wr := []) (w1 := (wd_82cdd16b h0 h1 v0 t81 v2 t80 h1 g0 f4)) hP hD [0, 1] [] rfl rfl (by decide) (by decide) hk1 hFc hP1 hD1
                                clear hP hD hPc hDc hKc hFc hP1 hK1 hD1 hk1 hz1
                                generalize H1 = H at hP2 hS ⊢
                                have hP : va_P (dC, dI) vwCl (wd_82cdd16b h0 h1 v0 t81 v2 t80 h1 g0 f4) H := hP2
                                have hD : va_D A (wd_82cdd16b h0 h1 v0 t81 v2 t80 h1 g0 f4) := hD2
                                clear hP2 hD2
                                obtain rfl : ra82 = ((-1) : Int32) := pv_cs (by decide) pt0_ra82 pt1_ra82
                                have hPc := hP.sub (ws' := []) [] rfl
                                have hDc := hD.sub (ws' := []) [] (by decide) rfl
                                have hKc := hK.sub (tys' := []) [] rfl
                                have hFc := va_free (wc := []) hD hS hA [] rfl
                                refine va_calli (va_runS (As := [.int (-1)]) (rest := []) ⟨hx, hb, hml, hown, hts⟩ (k_X10_isDigit l dC dI ((-1))  H.size) (va_cwS 1 hts g_X10_takeNumber_1 rfl rfl rfl (by decide +kernel) ⟨Nat.le_of_ble_eq_true rfl, Nat.le_of_ble_eq_true rfl⟩) (pv_PS hPc hKc hDc) rfl rfl hl.1 rfl (lv_room (Nat.le_of_ble_eq_true rfl)) dX10_takeNumber_76 ⟨Nat.le_of_ble_eq_true rfl, Nat.le_of_ble_eq_true rfl⟩) hS (fun q _ h => hFc q h) hFc (fun ra83 u t H1 locs ht hvm hwra83 hB hz1 hk1 hS => ?_)
                                try rw [hwra83] at hB
                                have hkra83_0 : (((-1) : Int32)).toInt = -1 := by decide
                                obtain ⟨pt0_ra83, pt1_ra83, pt2_ra83, pt3_ra83, pt4_ra83, hP1, hK1, hD1⟩ := hB
                                rw [ht] at hP1
                                obtain ⟨hP2, hD2⟩ := va_join (wr := (wd_82cdd16b h0 h1 v0 t81 v2 t80 h1 g0 f4)) (w1 := []) hP hD [] [0, 1] rfl rfl (by decide) (by decide) hk1 hFc hP1 hD1
                                clear hP hD hPc hDc hKc hFc hP1 hK1 hD1 hk1 hz1
                                generalize H1 = H at hP2 hS ⊢
                                have hP : va_P (dC, dI) vwCl (wd_82cdd16b h0 h1 v0 t81 v2 t80 h1 g0 f4) H := hP2
                                have hD : va_D A (wd_82cdd16b h0 h1 v0 t81 v2 t80 h1 g0 f4) := hD2
                                clear hP2 hD2
                                refine lv_if_eq (tgt := 89) hx hb dX10_takeNumber_79 (by decide) (fun c84 => ?_) (fun c84 => ?_)
                                · skip
                                  have fc84 : ra83.toInt = 0 := congrArg Int32.toInt c84
                                  refine lv_iconst (v := 1) hx hb dX10_takeNumber_89 (by decide) ?_
                                  refine lv_goto (tgt := 94) hx hb dX10_takeNumber_90 (by decide) ?_
                                  subst hQ
                                  have hP9 := hP.sub (ws' := (wd_82cdd16b h0 h1 v0 t81 v2 t80 h1 g0 f4)) [0, 1] rfl
                                  have hD9 := hD.sub (ws' := (wd_82cdd16b h0 h1 v0 t81 v2 t80 h1 g0 f4)) [0, 1] (by decide) rfl
                                  have hK9 := hK.sub (tys' := []) [] rfl
                                  exact W.zret (v := 1) hx hb hr rfl (fun t ht hW => ⟨⟨1, 1, rfl, rfl, Or.inl ⟨t81, t80, by first | omega | decide, by first | omega | decide, by first | omega | decide, by first | omega | decide, by first | omega | decide, by first | omega | decide, by omega, by first | exact hnm.trans (pg_nm.stop (by omega)) | (exfalso; omega), by rw [ht]; exact hP9, va_K.moved hW.alike hK9, hD9⟩⟩, hS.F ht⟩) hS.2.2 dX10_takeNumber_94
                                · skip
                                  have fc84 : ¬ (ra83.toInt = 0) := fun h9 => c84 (Int32.toInt_inj.mp h9)
                                  exfalso; omega
                              · skip
                                obtain ⟨pt0_ra82, pt1_ra82, pt2_ra82, pt3_ra82, hP1, hK1, hD1⟩ := hB
                                rw [ht] at hP1
                                obtain ⟨hP2, hD2⟩ := va_join (wr := []) (w1 := (wd_82cdd16b h0 h1 v0 t81 v2 t80 h1 g0 f4)) hP hD [0, 1] [] rfl rfl (by decide) (by decide) hk1 hFc hP1 hD1
                                clear hP hD hPc hDc hKc hFc hP1 hK1 hD1 hk1 hz1
                                generalize H1 = H at hP2 hS ⊢
                                have hP : va_P (dC, dI) vwCl (wd_82cdd16b h0 h1 v0 t81 v2 t80 h1 g0 f4) H := hP2
                                have hD : va_D A (wd_82cdd16b h0 h1 v0 t81 v2 t80 h1 g0 f4) := hD2
                                clear hP2 hD2
                                have hPc := hP.sub (ws' := []) [] rfl
                                have hDc := hD.sub (ws' := []) [] (by decide) rfl
                                have hKc := hK.sub (tys' := []) [] rfl
                                have hFc := va_free (wc := []) hD hS hA [] rfl
                                refine va_calli (va_runS (As := [.int ra82]) (rest := []) ⟨hx, hb, hml, hown, hts⟩ (k_X10_isDigit l dC dI ra82  H.size) (va_cwS 1 hts g_X10_takeNumber_1 rfl rfl rfl (by decide +kernel) ⟨Nat.le_of_ble_eq_true rfl, Nat.le_of_ble_eq_true rfl⟩) (pv_PS hPc hKc hDc) rfl rfl hl.1 rfl (lv_room (Nat.le_of_ble_eq_true rfl)) dX10_takeNumber_76 ⟨Nat.le_of_ble_eq_true rfl, Nat.le_of_ble_eq_true rfl⟩) hS (fun q _ h => hFc q h) hFc (fun ra85 u t H1 locs ht hvm hwra85 hB hz1 hk1 hS => ?_)
                                try rw [hwra85] at hB
                                obtain ⟨pt0_ra85, pt1_ra85, pt2_ra85, pt3_ra85, pt4_ra85, hP1, hK1, hD1⟩ := hB
                                rw [ht] at hP1
                                obtain ⟨hP2, hD2⟩ := va_join (wr := (wd_82cdd16b h0 h1 v0 t81 v2 t80 h1 g0 f4)) (w1 := []) hP hD [] [0, 1] rfl rfl (by decide) (by decide) hk1 hFc hP1 hD1
                                clear hP hD hPc hDc hKc hFc hP1 hK1 hD1 hk1 hz1
                                generalize H1 = H at hP2 hS ⊢
                                have hP : va_P (dC, dI) vwCl (wd_82cdd16b h0 h1 v0 t81 v2 t80 h1 g0 f4) H := hP2
                                have hD : va_D A (wd_82cdd16b h0 h1 v0 t81 v2 t80 h1 g0 f4) := hD2
                                clear hP2 hD2
                                refine lv_if_eq (tgt := 89) hx hb dX10_takeNumber_79 (by decide) (fun c86 => ?_) (fun c86 => ?_)
                                · skip
                                  have fc86 : ra85.toInt = 0 := congrArg Int32.toInt c86
                                  refine lv_iconst (v := 1) hx hb dX10_takeNumber_89 (by decide) ?_
                                  refine lv_goto (tgt := 94) hx hb dX10_takeNumber_90 (by decide) ?_
                                  subst hQ
                                  have hP9 := hP.sub (ws' := (wd_82cdd16b h0 h1 v0 t81 v2 t80 h1 g0 f4)) [0, 1] rfl
                                  have hD9 := hD.sub (ws' := (wd_82cdd16b h0 h1 v0 t81 v2 t80 h1 g0 f4)) [0, 1] (by decide) rfl
                                  have hK9 := hK.sub (tys' := []) [] rfl
                                  exact W.zret (v := 1) hx hb hr rfl (fun t ht hW => ⟨⟨1, 1, rfl, rfl, Or.inl ⟨t81, t80, by first | omega | decide, by first | omega | decide, by first | omega | decide, by first | omega | decide, by first | omega | decide, by first | omega | decide, by omega, by first | exact hnm.trans (pg_nm.stop (by omega)) | (exfalso; omega), by rw [ht]; exact hP9, va_K.moved hW.alike hK9, hD9⟩⟩, hS.F ht⟩) hS.2.2 dX10_takeNumber_94
                                · skip
                                  have fc86 : ¬ (ra85.toInt = 0) := fun h9 => c86 (Int32.toInt_inj.mp h9)
                                  refine lv_aload_n hx hb dX10_takeNumber_82 rfl (lv_at hl 1 rfl) ?_
                                  have hPc := hP.sub (ws' := (wd_09b0abee h0 h1 v0 t81 v2 t80)) [0] rfl
                                  have hDc := hD.sub (ws' := (wd_09b0abee h0 h1 v0 t81 v2 t80)) [0] (by decide) rfl
                                  have hKc := hK.sub (tys' := []) [] rfl
                                  have hFc := va_free (wc := (wd_09b0abee h0 h1 v0 t81 v2 t80)) hD hS hA [0] rfl
                                  refine va_calli (va_runV (As := []) (rest := []) ⟨hx, hb, hml, hown, hts⟩ (k_X10_wrongHere l dC dI h0 h1 v0 t81 v2 t80 ⟨i_v0a, i_v0b⟩ ⟨by first | omega | decide, by first | omega | decide⟩ H.size) (cwV 0 hts g_X10_takeNumber_2 rfl rfl rfl (by decide +kernel) ⟨Nat.le_of_ble_eq_true rfl, Nat.le_of_ble_eq_true rfl⟩) (pv_PV10 hPc hKc hDc (q0 := 0) rfl) rfl rfl hl.1 rfl (lv_room (Nat.le_of_ble_eq_true rfl)) dX10_takeNumber_83 ⟨Nat.le_of_ble_eq_true rfl, Nat.le_of_ble_eq_true rfl⟩) hS (fun q _ h => hFc q h) hFc (fun ra87 u t H1 locs ht hvm hwra87 hB hz1 hk1 hS => ?_)
                                  try rw [hwra87] at hB
                                  obtain ⟨x88, oa_x88, ob_x88, pt0_ra87, pt1_ra87, pt2_ra87, hP1, hK1, hD1⟩ := hB
                                  rw [ht] at hP1
                                  obtain ⟨hP2, hD2⟩ := va_join (wr := (wd_d0032b31 h1 g0 f4)) (w1 := (wd_09b0abee h0 h1 v0 t81 x88 t80)) hP hD [0] [1] rfl rfl (by decide) (by decide) hk1 hFc hP1 hD1
                                  clear hP hD hPc hDc hKc hFc hP1 hK1 hD1 hk1 hz1
                                  generalize H1 = H at hP2 hS ⊢
                                  have hP := hP2.sub (ws' := (wd_82cdd16b h0 h1 v0 t81 x88 t80 h1 g0 f4)) [1, 0] rfl
                                  have hD := hD2.sub (ws' := (wd_82cdd16b h0 h1 v0 t81 x88 t80 h1 g0 f4)) [1, 0] (by decide) rfl
                                  clear hP2 hD2
                                  obtain rfl : ra87 = (0 : Int32) := pv_cs (by decide) pt0_ra87 pt1_ra87
                                  refine lv_if_eq (tgt := 93) hx hb dX10_takeNumber_86 (by decide) (fun _ => ?_) (fun c => absurd (by decide) c)
                                  refine lv_iconst (v := 0) hx hb dX10_takeNumber_93 (by decide) ?_
                                  subst hQ
                                  have hP9 := hP.sub (ws' := (wd_82cdd16b h0 h1 v0 t81 x88 t80 h1 g0 f4)) [0, 1] rfl
                                  have hD9 := hD.sub (ws' := (wd_82cdd16b h0 h1 v0 t81 x88 t80 h1 g0 f4)) [0, 1] (by decide) rfl
                                  have hK9 := hK.sub (tys' := []) [] rfl
                                  exact W.zret (v := 0) hx hb hr rfl (fun t ht hW => ⟨⟨0, 0, rfl, rfl, Or.inr (⟨t81, x88, t80, by first | omega | decide, by first | omega | decide, oa_x88, ob_x88, by first | omega | decide, by first | omega | decide, by omega, by first | exact Or.inr (hnm.trans (pg_nm.over (by omega) (by omega) (by omega))) | (apply pg_nm.nn <;> first | assumption | omega) | (exfalso; omega), by rw [ht]; exact hP9, va_K.moved hW.alike hK9, hD9⟩)⟩, hS.F ht⟩) hS.2.2 dX10_takeNumber_94
    · skip
      have fc9 : ra8.toInt = 0 := congrArg Int32.toInt c9
      refine lv_aload_n hx hb dX10_takeNumber_10 rfl (lv_at hl 0 rfl) ?_
      have hPc := hP.sub (ws' := (wd_09b0abee h0 h1 v0 x7 v2 v3)) [0] rfl
      have hDc := hD.sub (ws' := (wd_09b0abee h0 h1 v0 x7 v2 v3)) [0] (by decide) rfl
      have hKc := hK.sub (tys' := []) [] rfl
      have hFc := va_free (wc := (wd_09b0abee h0 h1 v0 x7 v2 v3)) hD hS hA [0] rfl
      refine va_calli (va_runV (As := []) (rest := []) ⟨hx, hb, hml, hown, hts⟩ (k_X10_wrongHere l dC dI h0 h1 v0 x7 v2 v3 ⟨i_v0a, i_v0b⟩ ⟨oa_x7, by first | omega | decide⟩ H.size) (cwV 0 hts g_X10_takeNumber_2 rfl rfl rfl (by decide +kernel) ⟨Nat.le_of_ble_eq_true rfl, Nat.le_of_ble_eq_true rfl⟩) (pv_PV10 hPc hKc hDc (q0 := 0) rfl) rfl rfl hl.1 rfl (lv_room (Nat.le_of_ble_eq_true rfl)) dX10_takeNumber_11 ⟨Nat.le_of_ble_eq_true rfl, Nat.le_of_ble_eq_true rfl⟩) hS (fun q _ h => hFc q h) hFc (fun ra89 u t H1 locs ht hvm hwra89 hB hz1 hk1 hS => ?_)
      try rw [hwra89] at hB
      obtain ⟨x90, oa_x90, ob_x90, pt0_ra89, pt1_ra89, pt2_ra89, hP1, hK1, hD1⟩ := hB
      rw [ht] at hP1
      obtain ⟨hP2, hD2⟩ := va_join (wr := (wd_d0032b31 h1 g0 f4)) (w1 := (wd_09b0abee h0 h1 v0 x7 x90 v3)) hP hD [0] [1] rfl rfl (by decide) (by decide) hk1 hFc hP1 hD1
      clear hP hD hPc hDc hKc hFc hP1 hK1 hD1 hk1 hz1
      generalize H1 = H at hP2 hS ⊢
      have hP := hP2.sub (ws' := (wd_82cdd16b h0 h1 v0 x7 x90 v3 h1 g0 f4)) [1, 0] rfl
      have hD := hD2.sub (ws' := (wd_82cdd16b h0 h1 v0 x7 x90 v3 h1 g0 f4)) [1, 0] (by decide) rfl
      clear hP2 hD2
      obtain rfl : ra89 = (0 : Int32) := pv_cs (by decide) pt0_ra89 pt1_ra89
      subst hQ
      have hP9 := hP.sub (ws' := (wd_82cdd16b h0 h1 v0 x7 x90 v3 h1 g0 f4)) [0, 1] rfl
      have hD9 := hD.sub (ws' := (wd_82cdd16b h0 h1 v0 x7 x90 v3 h1 g0 f4)) [0, 1] (by decide) rfl
      have hK9 := hK.sub (tys' := []) [] rfl
      exact W.zret (v := 0) hx hb hr rfl (fun t ht hW => ⟨⟨0, 0, rfl, rfl, Or.inr (⟨x7, x90, v3, oa_x7, by first | omega | decide, oa_x90, ob_x90, by first | omega | decide, by first | omega | decide, by omega, by first | exact Or.inr (hnm.trans (pg_nm.over (by omega) (by omega) (by omega))) | (apply pg_nm.nn <;> first | assumption | omega) | (exfalso; omega), by rw [ht]; exact hP9, va_K.moved hW.alike hK9, hD9⟩)⟩, hS.F ht⟩) hS.2.2 dX10_takeNumber_14
def q_X3_readAtom : List Cond := .code yX3_readAtom cX3_readAtom 4 (some .boolean) :: (([.fieldLink RX3 19 "LeftArguments$LawReader" "tape" "LLeftArguments$Tape;", .code yX10_next cX10_next 1 (some .int), .fieldLink RX10 19 "LeftArguments$Tape" "at" "I", .fieldLink RX10 15 "LeftArguments$Tape" "used" "I", .fieldLink RX10 9 "LeftArguments$Tape" "bytes" "[I", .initialized RX10, .instanceMethod yX10_next, .selects RX10 yX10_next yX10_next, .methodLink RX3 48 yX10_next, .code yX10_isDigit cX10_isDigit 1 (some .boolean), .static yX10_isDigit, .methodLink RX3 92 yX10_isDigit, .code yX10_wrongHere cX10_wrongHere 1 (some .boolean), .fieldLink RX10 22 "LeftArguments$Tape" "wrongAt" "I", .instanceMethod yX10_wrongHere, .selects RX10 yX10_wrongHere yX10_wrongHere, .methodLink RX3 83 yX10_wrongHere, .code yJ0_indexOf_0f7a4 cJ0_indexOf_0f7a4 2 (some .int), .code yJ0_indexOf_7cf53 cJ0_indexOf_7cf53 3 (some .int), .code yJ0_isLatin1_aae02 cJ0_isLatin1_aae02 1 (some .boolean), .fieldLink RJ0 38 "java/lang/String" "COMPACT_STRINGS" "Z", .fieldLink RJ0 15 "java/lang/String" "coder" "B", .initialized RJ0, .instanceMethod yJ0_isLatin1_aae02, .selects RJ0 yJ0_isLatin1_aae02 yJ0_isLatin1_aae02, .methodLink RJ0 492 yJ0_isLatin1_aae02, .fieldLink RJ0 9 "java/lang/String" "value" "[B", .code yJ0_length_8abf5 cJ0_length_8abf5 1 (some .int), .code yJ0_coder_7d493 cJ0_coder_7d493 1 (some .byte), .instanceMethod yJ0_coder_7d493, .selects RJ0 yJ0_coder_7d493 yJ0_coder_7d493, .methodLink RJ0 335 yJ0_coder_7d493, .instanceMethod yJ0_length_8abf5, .selects RJ0 yJ0_length_8abf5 yJ0_length_8abf5, .methodLink RJ0 505 yJ0_length_8abf5, .code yJ1_indexOf_4cfef cJ1_indexOf_4cfef 4 (some .int), .code yJ1_canEncode_9a6ad cJ1_canEncode_9a6ad 1 (some .boolean), .initialized RJ1, .static yJ1_canEncode_9a6ad, .methodLink RJ1 88 yJ1_canEncode_9a6ad, .methodLink RJ1 92 Lib.Math.max.name, .static Lib.Math.max.name, .initialized "java/lang/Math", .code Lib.Math.max.name Lib.Math.max.code 2 (some .int), .methodLink RJ1 38 Lib.Math.min.name, .static Lib.Math.min.name, .code Lib.Math.min.name Lib.Math.min.code 2 (some .int), .code yJ1_indexOfChar_4cfef cJ1_indexOfChar_4cfef 6 (some .int), .static yJ1_indexOfChar_4cfef, .methodLink RJ1 95 yJ1_indexOfChar_4cfef, .static yJ1_indexOf_4cfef, .methodLink RJ0 637 yJ1_indexOf_4cfef, .instanceMethod yJ0_indexOf_7cf53, .selects RJ0 yJ0_indexOf_7cf53 yJ0_indexOf_7cf53, .methodLink RJ0 633 yJ0_indexOf_7cf53, .instanceMethod yJ0_indexOf_0f7a4, .selects RJ0 yJ0_indexOf_0f7a4 yJ0_indexOf_0f7a4, .methodLink RX3 103 yJ0_indexOf_0f7a4, .code yX10_step cX10_step 1 none, .instanceMethod yX10_step, .selects RX10 yX10_step yX10_step, .methodLink RX3 77 yX10_step, .code yX3_write cX3_write 3 none, .fieldLink RX3 15 "LeftArguments$LawReader" "used" "I", .fieldLink RX3 11 "LeftArguments$LawReader" "code" "[I", .initialized RX3, .instanceMethod yX3_write, .selects RX3 yX3_write yX3_write, .methodLink RX3 66 yX3_write, .code yX10_takeNumber cX10_takeNumber 3 (some .boolean), .methodLink RX10 37 yX10_next, .methodLink RX10 45 yX10_isDigit, .methodLink RX10 41 yX10_wrongHere, .fieldLink RX10 25 "LeftArguments$Tape" "number" "I", .code yX10_sign cX10_sign 1 (some .int), .instanceMethod yX10_sign, .selects RX10 yX10_sign yX10_sign, .methodLink RX10 49 yX10_sign, .instanceMethod yX10_takeNumber, .selects RX10 yX10_takeNumber yX10_takeNumber, .methodLink RX3 95 yX10_takeNumber, .code yX10_number cX10_number 1 (some .int), .instanceMethod yX10_number, .selects RX10 yX10_number yX10_number, .methodLink RX3 98 yX10_number] : List Cond) ++ wsX30 ++ wsX100)
set_option maxRecDepth 20000 in
theorem g_X3_readAtom_0 : GoodIn q_X3_readAtom (wsV RX3 48 RX10 yX10_next q_X10_next) := goodIn_app (goodIn_r _ [9, 7, 8, 6] rfl (by decide +kernel)) (goodIn_ca (goodIn_r (.code yX10_next cX10_next 1 (some .int) :: [.fieldLink RX10 19 "LeftArguments$Tape" "at" "I", .fieldLink RX10 15 "LeftArguments$Tape" "used" "I", .fieldLink RX10 9 "LeftArguments$Tape" "bytes" "[I"]) [2, 3, 4, 5] rfl (by decide +kernel)) (goodIn_sub (fun _ h => List.mem_cons_of_mem _ (List.mem_append_right _ h)) gwX10))
set_option maxRecDepth 20000 in
theorem g_X3_readAtom_1 : GoodIn q_X3_readAtom (va_wsS RX3 92 yX10_isDigit q_X10_isDigit) := goodIn_app (goodIn_r _ [12, 11, 6] rfl (by decide +kernel)) (goodIn_r (.code yX10_isDigit cX10_isDigit 1 (some .boolean) :: []) [10] rfl (by decide +kernel))
set_option maxRecDepth 20000 in
theorem g_X3_readAtom_2 : GoodIn q_X3_readAtom (wsV RX3 83 RX10 yX10_wrongHere q_X10_wrongHere) := goodIn_app (goodIn_r _ [17, 15, 16, 6] rfl (by decide +kernel)) (goodIn_ca (goodIn_r (.code yX10_wrongHere cX10_wrongHere 1 (some .boolean) :: [.fieldLink RX10 19 "LeftArguments$Tape" "at" "I", .fieldLink RX10 22 "LeftArguments$Tape" "wrongAt" "I"]) [13, 3, 14] rfl (by decide +kernel)) (goodIn_sub (fun _ h => List.mem_cons_of_mem _ (List.mem_append_right _ h)) gwX10))
set_option maxRecDepth 20000 in
theorem g_X3_readAtom_4 : GoodIn q_X3_readAtom (wsV RX3 103 RJ0 yJ0_indexOf_0f7a4 q_J0_indexOf_0f7a4) := goodIn_app (goodIn_r _ [58, 56, 57, 23] rfl (by decide +kernel)) (goodIn_r (.code yJ0_indexOf_0f7a4 cJ0_indexOf_0f7a4 2 (some .int) :: [.code yJ0_indexOf_7cf53 cJ0_indexOf_7cf53 3 (some .int), .code yJ0_isLatin1_aae02 cJ0_isLatin1_aae02 1 (some .boolean), .fieldLink RJ0 38 "java/lang/String" "COMPACT_STRINGS" "Z", .fieldLink RJ0 15 "java/lang/String" "coder" "B", .initialized RJ0, .instanceMethod yJ0_isLatin1_aae02, .selects RJ0 yJ0_isLatin1_aae02 yJ0_isLatin1_aae02, .methodLink RJ0 492 yJ0_isLatin1_aae02, .fieldLink RJ0 9 "java/lang/String" "value" "[B", .code yJ0_length_8abf5 cJ0_length_8abf5 1 (some .int), .code yJ0_coder_7d493 cJ0_coder_7d493 1 (some .byte), .instanceMethod yJ0_coder_7d493, .selects RJ0 yJ0_coder_7d493 yJ0_coder_7d493, .methodLink RJ0 335 yJ0_coder_7d493, .instanceMethod yJ0_length_8abf5, .selects RJ0 yJ0_length_8abf5 yJ0_length_8abf5, .methodLink RJ0 505 yJ0_length_8abf5, .code yJ1_indexOf_4cfef cJ1_indexOf_4cfef 4 (some .int), .code yJ1_canEncode_9a6ad cJ1_canEncode_9a6ad 1 (some .boolean), .initialized RJ1, .static yJ1_canEncode_9a6ad, .methodLink RJ1 88 yJ1_canEncode_9a6ad, .methodLink RJ1 92 Lib.Math.max.name, .static Lib.Math.max.name, .initialized "java/lang/Math", .code Lib.Math.max.name Lib.Math.max.code 2 (some .int), .methodLink RJ1 38 Lib.Math.min.name, .static Lib.Math.min.name, .code Lib.Math.min.name Lib.Math.min.code 2 (some .int), .code yJ1_indexOfChar_4cfef cJ1_indexOfChar_4cfef 6 (some .int), .static yJ1_indexOfChar_4cfef, .methodLink RJ1 95 yJ1_indexOfChar_4cfef, .static yJ1_indexOf_4cfef, .methodLink RJ0 637 yJ1_indexOf_4cfef, .instanceMethod yJ0_indexOf_7cf53, .selects RJ0 yJ0_indexOf_7cf53 yJ0_indexOf_7cf53, .methodLink RJ0 633 yJ0_indexOf_7cf53]) [18, 19, 20, 21, 22, 23, 24, 25, 26, 27, 28, 29, 30, 31, 32, 33, 34, 35, 36, 37, 38, 39, 40, 41, 42, 43, 44, 45, 46, 47, 48, 49, 50, 51, 52, 53, 54, 55] rfl (by decide +kernel))
set_option maxRecDepth 20000 in
theorem g_X3_readAtom_5 : GoodIn q_X3_readAtom (wsV RX3 77 RX10 yX10_step q_X10_step) := goodIn_app (goodIn_r _ [62, 60, 61, 6] rfl (by decide +kernel)) (goodIn_ca (goodIn_r (.code yX10_step cX10_step 1 none :: [.fieldLink RX10 19 "LeftArguments$Tape" "at" "I"]) [59, 3] rfl (by decide +kernel)) (goodIn_sub (fun _ h => List.mem_cons_of_mem _ (List.mem_append_right _ h)) gwX10))
set_option maxRecDepth 20000 in
theorem g_X3_readAtom_6 : GoodIn q_X3_readAtom (wsV RX3 66 RX3 yX3_write q_X3_write) := goodIn_app (goodIn_r _ [69, 67, 68, 66] rfl (by decide +kernel)) (goodIn_ca (goodIn_r (.code yX3_write cX3_write 3 none :: [.fieldLink RX3 15 "LeftArguments$LawReader" "used" "I", .fieldLink RX3 11 "LeftArguments$LawReader" "code" "[I"]) [63, 64, 65] rfl (by decide +kernel)) (goodIn_sub (fun _ h => List.mem_cons_of_mem _ (List.mem_append_left _ (List.mem_append_right _ h))) gwX3))
set_option maxRecDepth 20000 in
theorem g_X3_readAtom_8 : GoodIn q_X3_readAtom (wsV RX3 95 RX10 yX10_takeNumber q_X10_takeNumber) := goodIn_app (goodIn_r _ [81, 79, 80, 6] rfl (by decide +kernel)) (goodIn_ca (goodIn_r (.code yX10_takeNumber cX10_takeNumber 3 (some .boolean) :: [.code yX10_next cX10_next 1 (some .int), .fieldLink RX10 19 "LeftArguments$Tape" "at" "I", .fieldLink RX10 15 "LeftArguments$Tape" "used" "I", .fieldLink RX10 9 "LeftArguments$Tape" "bytes" "[I", .initialized RX10, .instanceMethod yX10_next, .selects RX10 yX10_next yX10_next, .methodLink RX10 37 yX10_next, .code yX10_isDigit cX10_isDigit 1 (some .boolean), .static yX10_isDigit, .methodLink RX10 45 yX10_isDigit, .code yX10_wrongHere cX10_wrongHere 1 (some .boolean), .fieldLink RX10 22 "LeftArguments$Tape" "wrongAt" "I", .instanceMethod yX10_wrongHere, .selects RX10 yX10_wrongHere yX10_wrongHere, .methodLink RX10 41 yX10_wrongHere, .fieldLink RX10 25 "LeftArguments$Tape" "number" "I", .code yX10_sign cX10_sign 1 (some .int), .instanceMethod yX10_sign, .selects RX10 yX10_sign yX10_sign, .methodLink RX10 49 yX10_sign]) [70, 2, 3, 4, 5, 6, 7, 8, 71, 10, 11, 72, 13, 14, 15, 16, 73, 74, 75, 76, 77, 78] rfl (by decide +kernel)) (goodIn_sub (fun _ h => List.mem_cons_of_mem _ (List.mem_append_right _ h)) gwX10))
set_option maxRecDepth 20000 in
theorem g_X3_readAtom_9 : GoodIn q_X3_readAtom (wsV RX3 98 RX10 yX10_number q_X10_number) := goodIn_app (goodIn_r _ [85, 83, 84, 6] rfl (by decide +kernel)) (goodIn_ca (goodIn_r (.code yX10_number cX10_number 1 (some .int) :: [.fieldLink RX10 25 "LeftArguments$Tape" "number" "I"]) [82, 74] rfl (by decide +kernel)) (goodIn_sub (fun _ h => List.mem_cons_of_mem _ (List.mem_append_right _ h)) gwX10))
set_option maxHeartbeats 4000000 in
set_option maxRecDepth 100000 in
theorem k_X3_readAtom (l : Launch) (dC : Nat → ClassId) (dI : Nat → Nat → Nat) (adK : Nat → Nat) (adV : Nat → Nat) (h0 : Nat) (h1 : Nat) (h2 : Nat) (h3 : Nat) (v0 : Int32) (v1 : Int32) (v2 : Int32) (v3 : Int32) (v4 : Int32) (g0 : ClassId) (f5 : Nat → Int32) (g1 : ClassId) (f6 : Nat → Int32) (i_v0 : 0 ≤ v0.toInt ∧ v0.toInt ≤ 256) (i_v1 : 0 ≤ v1.toInt ∧ v1.toInt ≤ 240) (i_v2 : 0 ≤ v2.toInt ∧ v2.toInt ≤ 240) (ia_f5 : (∀ j, 0 ≤ (f5 j).toInt ∧ (f5 j).toInt ≤ 255)) (sz : Nat) : Met l yX3_readAtom q_X3_readAtom ({ frames := 4, cells := 0, slots := 0, locals := 91 }) (va_Pc [.ref h0, .int 6] (fun U => U.heap.size = sz ∧ va_P (dC, dI) vwCl (wd_1ad0248d h0 h1 h3 v0 h1 h2 v1 v2 v3 v4 h2 g0 f5 h3 g1 f6) U.heap ∧ va_K (dC, dI) vwCl [(g0, .int), (g1, .int)] U ∧ va_D (fun _ => True) (wd_1ad0248d h0 h1 h3 v0 h1 h2 v1 v2 v3 v4 h2 g0 f5 h3 g1 f6) ∧ vk_R RX3 101 "zaondt" (adK 2) U ∧ va_Z "java/lang/String" "COMPACT_STRINGS" "Z" (.int 1) (va_A (wd_1ad0248d h0 h1 h3 v0 h1 h2 v1 v2 v3 v4 h2 g0 f5 h3 g1 f6) sz) U U.heap ∧ vk_S 3 pv_len3 pv_byt3 adK adV (va_A (wd_1ad0248d h0 h1 h3 v0 h1 h2 v1 v2 v3 v4 h2 g0 f5 h3 g1 f6) sz) U U.heap)) (va_Qi (fun (r : Int32) (r9 : Int32) => r9 = r) (fun (r : Int32) (t : State) => (∃ (o_h0_2 : Int32) (o_h1_2 : Int32) (o_h1_4 : Int32) (o_h3 : Nat → Int32), 0 ≤ o_h0_2.toInt ∧ o_h0_2.toInt ≤ 256 ∧ 0 ≤ o_h1_2.toInt ∧ o_h1_2.toInt ≤ 240 ∧ (1 ≤ r.toInt) ∧ (r.toInt ≤ 1) ∧ (v2.toInt ≤ o_h1_2.toInt) ∧ (pg_atom f5 v1.toInt 0 v2.toInt = (true, o_h1_2.toInt)) ∧ va_P (dC, dI) vwCl (wd_1ad0248d h0 h1 h3 o_h0_2 h1 h2 v1 o_h1_2 v3 o_h1_4 h2 g0 f5 h3 g1 o_h3) t.heap ∧ va_K (dC, dI) vwCl [] t ∧ va_D (va_A (wd_1ad0248d h0 h1 h3 v0 h1 h2 v1 v2 v3 v4 h2 g0 f5 h3 g1 f6) sz) (wd_1ad0248d h0 h1 h3 o_h0_2 h1 h2 v1 o_h1_2 v3 o_h1_4 h2 g0 f5 h3 g1 o_h3)) ∨ (∃ (o_h1_2 : Int32) (o_h1_3 : Int32) (o_h1_4 : Int32), 0 ≤ o_h1_2.toInt ∧ o_h1_2.toInt ≤ 240 ∧ 0 ≤ o_h1_3.toInt ∧ o_h1_3.toInt ≤ 240 ∧ (0 ≤ r.toInt) ∧ (r.toInt ≤ 0) ∧ (v2.toInt ≤ o_h1_2.toInt) ∧ (pg_atom f5 v1.toInt 0 v2.toInt = (false, o_h1_3.toInt)) ∧ va_P (dC, dI) vwCl (wd_1ad0248d h0 h1 h3 v0 h1 h2 v1 o_h1_2 o_h1_3 o_h1_4 h2 g0 f5 h3 g1 f6) t.heap ∧ va_K (dC, dI) vwCl [] t ∧ va_D (va_A (wd_1ad0248d h0 h1 h3 v0 h1 h2 v1 v2 v3 v4 h2 g0 f5 h3 g1 f6) sz) (wd_1ad0248d h0 h1 h3 v0 h1 h2 v1 o_h1_2 o_h1_3 o_h1_4 h2 g0 f5 h3 g1 f6))) (va_A (wd_1ad0248d h0 h1 h3 v0 h1 h2 v1 v2 v3 v4 h2 g0 f5 h3 g1 f6) sz)) 0 0 (va_A (wd_1ad0248d h0 h1 h3 v0 h1 h2 v1 v2 v3 v4 h2 g0 f5 h3 g1 f6) sz) := by
  refine Met.ofW (cc := cX3_readAtom) (maxL := 4) (ret := (some .boolean)) (by decide) rfl ?_
  intro p e s m args below meth c s₁ B hml hv
  obtain ⟨i_v0a, i_v0b⟩ := i_v0
  obtain ⟨i_v1a, i_v1b⟩ := i_v1
  obtain ⟨i_v2a, i_v2b⟩ := i_v2
  obtain ⟨rfl, hsz, hP, hK, hD0, h_vr_2, h_st_CS, h_st_S⟩ := hv
  have hx := B.exec
  have hb := B.bytes
  have hr := B.returns
  have hts := atoms_spec (ws := q_X3_readAtom) B.pre
  have hown : s.vm.findClass RX3 = some m.cls := findClass_of_methodNamed B.named
  have hlocks := B.notSynchronized
  subst hsz
  have hD := hD0.self (sz := s.heap.size)
  generalize hAe : va_A (wd_1ad0248d h0 h1 h3 v0 h1 h2 v1 v2 v3 v4 h2 g0 f5 h3 g1 f6) s.heap.size = A at hD h_st_CS h_st_S ⊢
  have hA : ∀ q : Nat, s.heap.size ≤ q → A q := fun q h => by rw [← hAe]; exact Or.inr h
  have hS : va_S A s.heap s.heap [] := va_S.rf
  generalize hQ : (MQ below _ _ s 0 0 A) = Q
  have hl := lv_entry ([.ref h0, .int 6]) (n := 4) (Nat.le_of_ble_eq_true rfl)
  rw [lg_entry_eq]
  generalize (lg_sl ([.ref h0, .int 6]) ++ List.replicate (4 - (lg_sl ([.ref h0, .int 6])).length) Slot.unset).toArray = ls at hl ⊢
  have hl : lv_has ls 4 [(0, .ref h0), (1, .int 6)] := hl
  obtain ⟨H, hH⟩ : ∃ H : Heap, H = s.heap := ⟨_, rfl⟩
  obtain ⟨locs, hlocs⟩ : ∃ y : List Loc, y = [] := ⟨_, rfl⟩
  have hS : va_S A s.heap H locs := by rw [hH, hlocs]; exact va_S.rf
  have hP : va_P (dC, dI) vwCl (wd_1ad0248d h0 h1 h3 v0 h1 h2 v1 v2 v3 v4 h2 g0 f5 h3 g1 f6) H := by rw [hH]; exact hP
  rw [← hH, ← hlocs]
  refine lv_aload_n hx hb dX3_readAtom_0 rfl (lv_at hl 0 rfl) ?_
  refine va_get (D := (dC, dI)) (ci := 3) (v := .ref h1) (C := RX3) (T := TX3) (N := 3) hx hb hts (fun _ h => List.mem_cons_of_mem _ (List.mem_append_left _ (List.mem_append_right _ h))) hown hK hP 0 rfl rfl 0 (by decide) (hts (.fieldLink RX3 19 "LeftArguments$LawReader" "tape" "LLeftArguments$Tape;") (List.mem_cons_of_mem _ (List.mem_append_left _ (List.mem_append_left _ (List.mem_of_getElem? (i := 0) rfl))))) (fun _ h9 => h9) rfl dX3_readAtom_1 ?_
  have hPc := hP.sub (ws' := (wd_82cdd16b h1 h2 v1 v2 v3 v4 h2 g0 f5)) [1, 2] rfl
  have hDc := hD.sub (ws' := (wd_82cdd16b h1 h2 v1 v2 v3 v4 h2 g0 f5)) [1, 2] (by decide) rfl
  have hKc := hK.sub (tys' := [(g0, .int)]) [0] rfl
  have hFc := va_free (wc := (wd_82cdd16b h1 h2 v1 v2 v3 v4 h2 g0 f5)) hD hS hA [1, 2] rfl
  refine va_calli (va_runV (As := []) (rest := []) ⟨hx, hb, hml, hown, hts⟩ (k_X10_next l dC dI h1 h2 v1 v2 v3 v4 g0 f5 ⟨i_v1a, i_v1b⟩ ⟨i_v2a, i_v2b⟩ ia_f5 H.size) (cwV 0 hts g_X3_readAtom_0 rfl rfl rfl (by decide +kernel) ⟨Nat.le_of_ble_eq_true rfl, Nat.le_of_ble_eq_true rfl⟩) (pv_PV10 hPc hKc hDc (q0 := 0) rfl) rfl rfl hl.1 rfl (lv_room (Nat.le_of_ble_eq_true rfl)) dX3_readAtom_4 ⟨Nat.le_of_ble_eq_true rfl, Nat.le_of_ble_eq_true rfl⟩) hS (fun q _ h => hFc q h) hFc (fun ra1 u t H1 locs ht hvm hwra1 hB hz1 hk1 hS => ?_)
  try rw [hwra1] at hB
  rcases hB with hB | hB
  · skip
    obtain ⟨x2, oa_x2, ob_x2, pt0_ra1, pt1_ra1, pt2_ra1, pt3_ra1, pt4_ra1, pt5_ra1, pt6_ra1, hP1, hK1, hD1⟩ := hB
    rw [ht] at hP1
    obtain ⟨hP2, hD2⟩ := va_join (wr := (wd_b958b9da h0 h1 h3 v0 h3 g1 f6)) (w1 := (wd_82cdd16b h1 h2 v1 x2 v3 v4 h2 g0 f5)) hP hD [1, 2] [0, 3] rfl rfl (by decide) (by decide) hk1 hFc hP1 hD1
    clear hP hD hPc hDc hKc hFc hP1 hK1 hD1 hk1 hz1
    generalize H1 = H at hP2 hS ⊢
    have hP := hP2.sub (ws' := (wd_1ad0248d h0 h1 h3 v0 h1 h2 v1 x2 v3 v4 h2 g0 f5 h3 g1 f6)) [0, 2, 3, 1] rfl
    have hD := hD2.sub (ws' := (wd_1ad0248d h0 h1 h3 v0 h1 h2 v1 x2 v3 v4 h2 g0 f5 h3 g1 f6)) [0, 2, 3, 1] (by decide) rfl
    clear hP2 hD2
    obtain rfl : ra1 = ((-1) : Int32) := pv_cs (by decide) pt0_ra1 pt1_ra1
    refine lv_istore_n (lv' := [(2, .int (-1)), (0, .ref h0), (1, .int 6)]) hx hb dX3_readAtom_7 rfl hl (by decide) rfl (fun ls hl => ?_)
    refine lv_iload_n hx hb dX3_readAtom_8 rfl (lv_at hl 0 rfl) ?_
    refine lv_bipush (v := 91) hx hb dX3_readAtom_9 (by decide) ?_
    refine lv_icmp_ne (tgt := 55) hx hb dX3_readAtom_11 (by decide) (fun _ => ?_) (fun c => absurd c (by decide))
    refine lv_iload_n hx hb dX3_readAtom_55 rfl (lv_at hl 0 rfl) ?_
    have hPc := hP.sub (ws' := []) [] rfl
    have hDc := hD.sub (ws' := []) [] (by decide) rfl
    have hKc := hK.sub (tys' := []) [] rfl
    have hFc := va_free (wc := []) hD hS hA [] rfl
    refine va_calli (va_runS (As := [.int (-1)]) (rest := []) ⟨hx, hb, hml, hown, hts⟩ (k_X10_isDigit l dC dI ((-1))  H.size) (va_cwS 1 hts g_X3_readAtom_1 rfl rfl rfl (by decide +kernel) ⟨Nat.le_of_ble_eq_true rfl, Nat.le_of_ble_eq_true rfl⟩) (pv_PS hPc hKc hDc) rfl rfl hl.1 rfl (lv_room (Nat.le_of_ble_eq_true rfl)) dX3_readAtom_56 ⟨Nat.le_of_ble_eq_true rfl, Nat.le_of_ble_eq_true rfl⟩) hS (fun q _ h => hFc q h) hFc (fun ra3 u t H1 locs ht hvm hwra3 hB hz1 hk1 hS => ?_)
    try rw [hwra3] at hB
    have hkra3_0 : (((-1) : Int32)).toInt = -1 := by decide
    obtain ⟨pt0_ra3, pt1_ra3, pt2_ra3, pt3_ra3, pt4_ra3, hP1, hK1, hD1⟩ := hB
    rw [ht] at hP1
    obtain ⟨hP2, hD2⟩ := va_join (wr := (wd_1ad0248d h0 h1 h3 v0 h1 h2 v1 x2 v3 v4 h2 g0 f5 h3 g1 f6)) (w1 := []) hP hD [] [0, 1, 2, 3] rfl rfl (by decide) (by decide) hk1 hFc hP1 hD1
    clear hP hD hPc hDc hKc hFc hP1 hK1 hD1 hk1 hz1
    generalize H1 = H at hP2 hS ⊢
    have hP : va_P (dC, dI) vwCl (wd_1ad0248d h0 h1 h3 v0 h1 h2 v1 x2 v3 v4 h2 g0 f5 h3 g1 f6) H := hP2
    have hD : va_D A (wd_1ad0248d h0 h1 h3 v0 h1 h2 v1 x2 v3 v4 h2 g0 f5 h3 g1 f6) := hD2
    clear hP2 hD2
    refine lv_if_eq (tgt := 89) hx hb dX3_readAtom_59 (by decide) (fun c4 => ?_) (fun c4 => ?_)
    · skip
      have fc4 : ra3.toInt = 0 := congrArg Int32.toInt c4
      refine lv_iload_n hx hb dX3_readAtom_89 rfl (lv_at hl 0 rfl) ?_
      refine lv_iconst (v := (-1)) hx hb dX3_readAtom_90 (by decide) ?_
      refine lv_icmp_ne (tgt := 98) hx hb dX3_readAtom_91 (by decide) (fun c => absurd (by decide) c) (fun _ => ?_)
      refine lv_iconst (v := (-1)) hx hb dX3_readAtom_94 (by decide) ?_
      refine lv_goto (tgt := 105) hx hb dX3_readAtom_95 (by decide) ?_
      refine lv_istore_n (lv' := [(3, .int (-1)), (2, .int (-1)), (0, .ref h0), (1, .int 6)]) hx hb dX3_readAtom_105 rfl hl (by decide) rfl (fun ls hl => ?_)
      refine lv_iload_n hx hb dX3_readAtom_106 rfl (lv_at hl 0 rfl) ?_
      refine lv_if_ge (tgt := 118) hx hb dX3_readAtom_107 (by decide) (fun c => absurd c (by decide)) (fun _ => ?_)
      refine lv_aload_n hx hb dX3_readAtom_110 rfl (lv_at hl 2 rfl) ?_
      refine va_get (D := (dC, dI)) (ci := 3) (v := .ref h1) (C := RX3) (T := TX3) (N := 3) hx hb hts (fun _ h => List.mem_cons_of_mem _ (List.mem_append_left _ (List.mem_append_right _ h))) hown hK hP 0 rfl rfl 0 (by decide) (hts (.fieldLink RX3 19 "LeftArguments$LawReader" "tape" "LLeftArguments$Tape;") (List.mem_cons_of_mem _ (List.mem_append_left _ (List.mem_append_left _ (List.mem_of_getElem? (i := 0) rfl))))) (fun _ h9 => h9) rfl dX3_readAtom_111 ?_
      have hPc := hP.sub (ws' := (wd_09b0abee h1 h2 v1 x2 v3 v4)) [1] rfl
      have hDc := hD.sub (ws' := (wd_09b0abee h1 h2 v1 x2 v3 v4)) [1] (by decide) rfl
      have hKc := hK.sub (tys' := []) [] rfl
      have hFc := va_free (wc := (wd_09b0abee h1 h2 v1 x2 v3 v4)) hD hS hA [1] rfl
      refine va_calli (va_runV (As := []) (rest := []) ⟨hx, hb, hml, hown, hts⟩ (k_X10_wrongHere l dC dI h1 h2 v1 x2 v3 v4 ⟨i_v1a, i_v1b⟩ ⟨oa_x2, ob_x2⟩ H.size) (cwV 0 hts g_X3_readAtom_2 rfl rfl rfl (by decide +kernel) ⟨Nat.le_of_ble_eq_true rfl, Nat.le_of_ble_eq_true rfl⟩) (pv_PV10 hPc hKc hDc (q0 := 0) rfl) rfl rfl hl.1 rfl (lv_room (Nat.le_of_ble_eq_true rfl)) dX3_readAtom_114 ⟨Nat.le_of_ble_eq_true rfl, Nat.le_of_ble_eq_true rfl⟩) hS (fun q _ h => hFc q h) hFc (fun ra5 u t H1 locs ht hvm hwra5 hB hz1 hk1 hS => ?_)
      try rw [hwra5] at hB
      obtain ⟨x6, oa_x6, ob_x6, pt0_ra5, pt1_ra5, pt2_ra5, hP1, hK1, hD1⟩ := hB
      rw [ht] at hP1
      obtain ⟨hP2, hD2⟩ := va_join (wr := (wd_6b0d8e05 h0 h1 h3 v0 h2 g0 f5 h3 g1 f6)) (w1 := (wd_09b0abee h1 h2 v1 x2 x6 v4)) hP hD [1] [0, 2, 3] rfl rfl (by decide) (by decide) hk1 hFc hP1 hD1
      clear hP hD hPc hDc hKc hFc hP1 hK1 hD1 hk1 hz1
      generalize H1 = H at hP2 hS ⊢
      have hP := hP2.sub (ws' := (wd_1ad0248d h0 h1 h3 v0 h1 h2 v1 x2 x6 v4 h2 g0 f5 h3 g1 f6)) [0, 3, 1, 2] rfl
      have hD := hD2.sub (ws' := (wd_1ad0248d h0 h1 h3 v0 h1 h2 v1 x2 x6 v4 h2 g0 f5 h3 g1 f6)) [0, 3, 1, 2] (by decide) rfl
      clear hP2 hD2
      obtain rfl : ra5 = (0 : Int32) := pv_cs (by decide) pt0_ra5 pt1_ra5
      subst hQ
      have hP9 := hP.sub (ws' := (wd_1ad0248d h0 h1 h3 v0 h1 h2 v1 x2 x6 v4 h2 g0 f5 h3 g1 f6)) [0, 1, 2, 3] rfl
      have hD9 := hD.sub (ws' := (wd_1ad0248d h0 h1 h3 v0 h1 h2 v1 x2 x6 v4 h2 g0 f5 h3 g1 f6)) [0, 1, 2, 3] (by decide) rfl
      have hK9 := hK.sub (tys' := []) [] rfl
      exact W.zret (v := 0) hx hb hr rfl (fun t ht hW => ⟨⟨0, 0, rfl, rfl, Or.inr (⟨x2, x6, v4, oa_x2, ob_x2, oa_x6, ob_x6, by first | omega | decide, by first | omega | decide, by omega, by show pg_atomF f5 v1.toInt false pg_none _ = _; first | (apply pg_atomF.nmc <;> first | assumption | omega) | (apply pg_atomF.nmf <;> first | assumption | omega) | (apply pg_atomF.num <;> first | assumption | omega) | (apply pg_atomF.lt <;> first | assumption | omega) | (apply pg_atomF.par1 <;> first | assumption | omega) | (apply pg_atomF.par0 <;> first | assumption | omega) | (apply pg_atomF.deep <;> first | assumption | omega) | (apply pg_atomF.bdn <;> first | assumption | omega) | (apply pg_atomF.bad <;> first | assumption | omega), by rw [ht]; exact hP9, va_K.moved hW.alike hK9, hD9⟩)⟩, hS.F ht⟩) hS.2.2 dX3_readAtom_117
    · skip
      have fc4 : ¬ (ra3.toInt = 0) := fun h9 => c4 (Int32.toInt_inj.mp h9)
      exfalso; omega
  · skip
    obtain ⟨x7, oa_x7, ob_x7, pt0_ra1, pt1_ra1, pt2_ra1, pt3_ra1, pt4_ra1, pt5_ra1, pt6_ra1, hP1, hK1, hD1⟩ := hB
    rw [ht] at hP1
    obtain ⟨hP2, hD2⟩ := va_join (wr := (wd_b958b9da h0 h1 h3 v0 h3 g1 f6)) (w1 := (wd_82cdd16b h1 h2 v1 x7 v3 v4 h2 g0 f5)) hP hD [1, 2] [0, 3] rfl rfl (by decide) (by decide) hk1 hFc hP1 hD1
    clear hP hD hPc hDc hKc hFc hP1 hK1 hD1 hk1 hz1
    generalize H1 = H at hP2 hS ⊢
    have hP := hP2.sub (ws' := (wd_1ad0248d h0 h1 h3 v0 h1 h2 v1 x7 v3 v4 h2 g0 f5 h3 g1 f6)) [0, 2, 3, 1] rfl
    have hD := hD2.sub (ws' := (wd_1ad0248d h0 h1 h3 v0 h1 h2 v1 x7 v3 v4 h2 g0 f5 h3 g1 f6)) [0, 2, 3, 1] (by decide) rfl
    clear hP2 hD2
    refine lv_istore_n (lv' := [(2, .int ra1), (0, .ref h0), (1, .int 6)]) hx hb dX3_readAtom_7 rfl hl (by decide) rfl (fun ls hl => ?_)
    refine lv_iload_n hx hb dX3_readAtom_8 rfl (lv_at hl 0 rfl) ?_
    refine lv_bipush (v := 91) hx hb dX3_readAtom_9 (by decide) ?_
    refine lv_icmp_ne (tgt := 55) hx hb dX3_readAtom_11 (by decide) (fun c8 => ?_) (fun c8 => ?_)
    · skip
      have fc8 : ¬ (ra1.toInt = 91) := fun h9 => c8 (Int32.toInt_inj.mp h9)
      refine lv_iload_n hx hb dX3_readAtom_55 rfl (lv_at hl 0 rfl) ?_
      have hPc := hP.sub (ws' := []) [] rfl
      have hDc := hD.sub (ws' := []) [] (by decide) rfl
      have hKc := hK.sub (tys' := []) [] rfl
      have hFc := va_free (wc := []) hD hS hA [] rfl
      refine va_calli (va_runS (As := [.int ra1]) (rest := []) ⟨hx, hb, hml, hown, hts⟩ (k_X10_isDigit l dC dI ra1  H.size) (va_cwS 1 hts g_X3_readAtom_1 rfl rfl rfl (by decide +kernel) ⟨Nat.le_of_ble_eq_true rfl, Nat.le_of_ble_eq_true rfl⟩) (pv_PS hPc hKc hDc) rfl rfl hl.1 rfl (lv_room (Nat.le_of_ble_eq_true rfl)) dX3_readAtom_56 ⟨Nat.le_of_ble_eq_true rfl, Nat.le_of_ble_eq_true rfl⟩) hS (fun q _ h => hFc q h) hFc (fun ra9 u t H1 locs ht hvm hwra9 hB hz1 hk1 hS => ?_)
      try rw [hwra9] at hB
      obtain ⟨pt0_ra9, pt1_ra9, pt2_ra9, pt3_ra9, pt4_ra9, hP1, hK1, hD1⟩ := hB
      rw [ht] at hP1
      obtain ⟨hP2, hD2⟩ := va_join (wr := (wd_1ad0248d h0 h1 h3 v0 h1 h2 v1 x7 v3 v4 h2 g0 f5 h3 g1 f6)) (w1 := []) hP hD [] [0, 1, 2, 3] rfl rfl (by decide) (by decide) hk1 hFc hP1 hD1
      clear hP hD hPc hDc hKc hFc hP1 hK1 hD1 hk1 hz1
      generalize H1 = H at hP2 hS ⊢
      have hP : va_P (dC, dI) vwCl (wd_1ad0248d h0 h1 h3 v0 h1 h2 v1 x7 v3 v4 h2 g0 f5 h3 g1 f6) H := hP2
      have hD : va_D A (wd_1ad0248d h0 h1 h3 v0 h1 h2 v1 x7 v3 v4 h2 g0 f5 h3 g1 f6) := hD2
      clear hP2 hD2
      refine lv_if_eq (tgt := 89) hx hb dX3_readAtom_59 (by decide) (fun c10 => ?_) (fun c10 => ?_)
      · skip
        have fc10 : ra9.toInt = 0 := congrArg Int32.toInt c10
        refine lv_iload_n hx hb dX3_readAtom_89 rfl (lv_at hl 0 rfl) ?_
        refine lv_iconst (v := (-1)) hx hb dX3_readAtom_90 (by decide) ?_
        refine lv_icmp_ne (tgt := 98) hx hb dX3_readAtom_91 (by decide) (fun _ => ?_) (fun c11 => by exfalso; have fc11 : ra1.toInt = (-1) := congrArg Int32.toInt c11; omega)
        refine va_ldcS hx hb hown h_vr_2 dX3_readAtom_98 ?_
        refine lv_iload_n hx hb dX3_readAtom_100 rfl (lv_at hl 0 rfl) ?_
        obtain ⟨t12, et12⟩ : ∃ z : Int32, z = ((ra1 : Int32).toUInt32 % 65536).toInt32 := ⟨_, rfl⟩
        refine lv_i2c (v := t12) hx hb dX3_readAtom_101 (by rw [et12]) ?_
        have hcct12 : t12.toInt = pg_ch f5 v1.toInt x7.toInt := pg_i2c et12 (by omega) (by omega) (by omega)
        have hPc := hP.sub (ws' := []) [] rfl
        have hDc := hD.sub (ws' := []) [] (by decide) rfl
        have hKc := hK.sub (tys' := []) [] rfl
        have hFc := va_free (wc := []) hD hS hA [] rfl
        refine va_calli (va_runV (As := [.int t12]) (rest := []) ⟨hx, hb, hml, hown, hts⟩ (k_J0_indexOf_0f7a4 l dC dI adK adV t12  H.size) (cwV 1 hts g_X3_readAtom_4 rfl rfl rfl (by decide +kernel) ⟨Nat.le_of_ble_eq_true rfl, Nat.le_of_ble_eq_true rfl⟩) ⟨fun a U g mk q => by obtain ⟨q0, q1, qP, qK, qD, n0, n1⟩ := q; exact ⟨q0, q1, qP, va_K.moved (u := U) (U := U.calling g mk a) (Vm.Alike.refl U.vm) qK, qD, va_Z.moved (Vm.Alike.refl _) n0, vk_S.moved (Vm.Alike.refl _) n1⟩, vk_recv h_st_S (by decide : 2 < 3) hS, fun U hU hW => ⟨rfl, by rw [hU], by rw [hU]; exact hPc, va_K.moved hW.alike hKc, hDc.weaken (fun _ _ _ _ => trivial), (by rw [hU]; exact (va_Z.moved hW.alike (va_Z.kept h_st_CS hS.2.1)).narrow hFc), (by rw [hU]; exact (vk_S.moved hW.alike (vk_S.kept h_st_S hS.2.1)).narrow hFc)⟩⟩ rfl rfl hl.1 rfl (lv_room (Nat.le_of_ble_eq_true rfl)) dX3_readAtom_102 ⟨Nat.le_of_ble_eq_true rfl, Nat.le_of_ble_eq_true rfl⟩) hS (fun q _ h => hFc q h) hFc (fun ra13 u t H1 locs ht hvm hwra13 hB hz1 hk1 hS => ?_)
        try rw [hwra13] at hB
        obtain ⟨pt0_ra13, pt1_ra13, pt2_ra13, hP1, hK1, hD1⟩ := hB
        rw [ht] at hP1
        obtain ⟨hP2, hD2⟩ := va_join (wr := (wd_1ad0248d h0 h1 h3 v0 h1 h2 v1 x7 v3 v4 h2 g0 f5 h3 g1 f6)) (w1 := []) hP hD [] [0, 1, 2, 3] rfl rfl (by decide) (by decide) hk1 hFc hP1 hD1
        clear hP hD hPc hDc hKc hFc hP1 hK1 hD1 hk1 hz1
        generalize H1 = H at hP2 hS ⊢
        have hP : va_P (dC, dI) vwCl (wd_1ad0248d h0 h1 h3 v0 h1 h2 v1 x7 v3 v4 h2 g0 f5 h3 g1 f6) H := hP2
        have hD : va_D A (wd_1ad0248d h0 h1 h3 v0 h1 h2 v1 x7 v3 v4 h2 g0 f5 h3 g1 f6) := hD2
        clear hP2 hD2
        have hltra13 : pm_lt (pg_ch f5 v1.toInt x7.toInt) = ra13.toInt := by rw [show pg_ch f5 v1.toInt x7.toInt = t12.toInt by omega]; omega
        refine lv_istore_n (lv' := [(3, .int ra13), (2, .int ra1), (0, .ref h0), (1, .int 6)]) hx hb dX3_readAtom_105 rfl hl (by decide) rfl (fun ls hl => ?_)
        refine lv_iload_n hx hb dX3_readAtom_106 rfl (lv_at hl 0 rfl) ?_
        refine lv_if_ge (tgt := 118) hx hb dX3_readAtom_107 (by decide) (fun c14 => ?_) (fun c14 => ?_)
        · skip
          have fc14 : 0 ≤ ra13.toInt := Int32.le_iff_toInt_le.mp c14
          refine lv_aload_n hx hb dX3_readAtom_118 rfl (lv_at hl 2 rfl) ?_
          refine va_get (D := (dC, dI)) (ci := 3) (v := .ref h1) (C := RX3) (T := TX3) (N := 3) hx hb hts (fun _ h => List.mem_cons_of_mem _ (List.mem_append_left _ (List.mem_append_right _ h))) hown hK hP 0 rfl rfl 0 (by decide) (hts (.fieldLink RX3 19 "LeftArguments$LawReader" "tape" "LLeftArguments$Tape;") (List.mem_cons_of_mem _ (List.mem_append_left _ (List.mem_append_left _ (List.mem_of_getElem? (i := 0) rfl))))) (fun _ h9 => h9) rfl dX3_readAtom_119 ?_
          have hPc := hP.sub (ws' := (wd_09b0abee h1 h2 v1 x7 v3 v4)) [1] rfl
          have hDc := hD.sub (ws' := (wd_09b0abee h1 h2 v1 x7 v3 v4)) [1] (by decide) rfl
          have hKc := hK.sub (tys' := []) [] rfl
          have hFc := va_free (wc := (wd_09b0abee h1 h2 v1 x7 v3 v4)) hD hS hA [1] rfl
          refine va_callv (va_runV (As := []) (rest := []) ⟨hx, hb, hml, hown, hts⟩ (k_X10_step l dC dI h1 h2 v1 x7 v3 v4 ⟨i_v1a, i_v1b⟩ ⟨oa_x7, ob_x7⟩ H.size) (cwV 0 hts g_X3_readAtom_5 rfl rfl rfl (by decide +kernel) ⟨Nat.le_of_ble_eq_true rfl, Nat.le_of_ble_eq_true rfl⟩) (pv_PV10 hPc hKc hDc (q0 := 0) rfl) rfl rfl hl.1 rfl (lv_room (Nat.le_of_ble_eq_true rfl)) dX3_readAtom_122 ⟨Nat.le_of_ble_eq_true rfl, Nat.le_of_ble_eq_true rfl⟩) hS (fun q _ h => hFc q h) hFc (fun u t H1 locs ht hvm hwra15 hB hz1 hk1 hS => ?_)
          obtain ⟨x16, oa_x16, ob_x16, pt0_ra15, hP1, hK1, hD1⟩ := hB
          rw [ht] at hP1
          obtain ⟨hP2, hD2⟩ := va_join (wr := (wd_6b0d8e05 h0 h1 h3 v0 h2 g0 f5 h3 g1 f6)) (w1 := (wd_09b0abee h1 h2 v1 x16 v3 v4)) hP hD [1] [0, 2, 3] rfl rfl (by decide) (by decide) hk1 hFc hP1 hD1
          clear hP hD hPc hDc hKc hFc hP1 hK1 hD1 hk1 hz1
          generalize H1 = H at hP2 hS ⊢
          have hP := hP2.sub (ws' := (wd_1ad0248d h0 h1 h3 v0 h1 h2 v1 x16 v3 v4 h2 g0 f5 h3 g1 f6)) [0, 3, 1, 2] rfl
          have hD := hD2.sub (ws' := (wd_1ad0248d h0 h1 h3 v0 h1 h2 v1 x16 v3 v4 h2 g0 f5 h3 g1 f6)) [0, 3, 1, 2] (by decide) rfl
          clear hP2 hD2
          refine lv_aload_n hx hb dX3_readAtom_125 rfl (lv_at hl 2 rfl) ?_
          refine lv_iconst (v := 1) hx hb dX3_readAtom_126 (by decide) ?_
          refine lv_iload_n hx hb dX3_readAtom_127 rfl (lv_at hl 0 rfl) ?_
          have hPc := hP.sub (ws' := (wd_b958b9da h0 h1 h3 v0 h3 g1 f6)) [0, 3] rfl
          have hDc := hD.sub (ws' := (wd_b958b9da h0 h1 h3 v0 h3 g1 f6)) [0, 3] (by decide) rfl
          have hKc := hK.sub (tys' := [(g1, .int)]) [1] rfl
          have hFc := va_free (wc := (wd_b958b9da h0 h1 h3 v0 h3 g1 f6)) hD hS hA [0, 3] rfl
          refine va_callv (va_runV (As := [.int 1, .int ra13]) (rest := []) ⟨hx, hb, hml, hown, hts⟩ (k_X3_write l dC dI h0 h3 h1 v0 g1 f6 1 ra13 ⟨i_v0a, i_v0b⟩ H.size) (cwV 2 hts g_X3_readAtom_6 rfl rfl rfl (by decide +kernel) ⟨Nat.le_of_ble_eq_true rfl, Nat.le_of_ble_eq_true rfl⟩) (pv_PV3 hPc hKc hDc (q0 := 0) rfl) rfl rfl hl.1 rfl (lv_room (Nat.le_of_ble_eq_true rfl)) dX3_readAtom_128 ⟨Nat.le_of_ble_eq_true rfl, Nat.le_of_ble_eq_true rfl⟩) hS (fun q _ h => hFc q h) hFc (fun u t H1 locs ht hvm hwra17 hB hz1 hk1 hS => ?_)
          obtain ⟨x18, fn19, oa_x18, ob_x18, hP1, hK1, hD1⟩ := hB
          rw [ht] at hP1
          obtain ⟨hP2, hD2⟩ := va_join (wr := (wd_82cdd16b h1 h2 v1 x16 v3 v4 h2 g0 f5)) (w1 := (wd_b958b9da h0 h1 h3 x18 h3 g1 fn19)) hP hD [0, 3] [1, 2] rfl rfl (by decide) (by decide) hk1 hFc hP1 hD1
          clear hP hD hPc hDc hKc hFc hP1 hK1 hD1 hk1 hz1
          generalize H1 = H at hP2 hS ⊢
          have hP := hP2.sub (ws' := (wd_1ad0248d h0 h1 h3 x18 h1 h2 v1 x16 v3 v4 h2 g0 f5 h3 g1 fn19)) [2, 0, 1, 3] rfl
          have hD := hD2.sub (ws' := (wd_1ad0248d h0 h1 h3 x18 h1 h2 v1 x16 v3 v4 h2 g0 f5 h3 g1 fn19)) [2, 0, 1, 3] (by decide) rfl
          clear hP2 hD2
          refine lv_iconst (v := 1) hx hb dX3_readAtom_131 (by decide) ?_
          subst hQ
          have hP9 := hP.sub (ws' := (wd_1ad0248d h0 h1 h3 x18 h1 h2 v1 x16 v3 v4 h2 g0 f5 h3 g1 fn19)) [0, 1, 2, 3] rfl
          have hD9 := hD.sub (ws' := (wd_1ad0248d h0 h1 h3 x18 h1 h2 v1 x16 v3 v4 h2 g0 f5 h3 g1 fn19)) [0, 1, 2, 3] (by decide) rfl
          have hK9 := hK.sub (tys' := []) [] rfl
          exact W.zret (v := 1) hx hb hr rfl (fun t ht hW => ⟨⟨1, 1, rfl, rfl, Or.inl ⟨x18, x16, v4, fn19, oa_x18, ob_x18, by first | omega | decide, ob_x16, by first | omega | decide, by first | omega | decide, by omega, by show pg_atomF f5 v1.toInt false pg_none _ = _; first | (apply pg_atomF.nmc <;> first | assumption | omega) | (apply pg_atomF.nmf <;> first | assumption | omega) | (apply pg_atomF.num <;> first | assumption | omega) | (apply pg_atomF.lt <;> first | assumption | omega) | (apply pg_atomF.par1 <;> first | assumption | omega) | (apply pg_atomF.par0 <;> first | assumption | omega) | (apply pg_atomF.deep <;> first | assumption | omega) | (apply pg_atomF.bdn <;> first | assumption | omega) | (apply pg_atomF.bad <;> first | assumption | omega), by rw [ht]; exact hP9, va_K.moved hW.alike hK9, hD9⟩⟩, hS.F ht⟩) hS.2.2 dX3_readAtom_132
        · skip
          have fc14 : ¬ (0 ≤ ra13.toInt) := fun h9 => c14 (Int32.le_iff_toInt_le.mpr h9)
          refine lv_aload_n hx hb dX3_readAtom_110 rfl (lv_at hl 2 rfl) ?_
          refine va_get (D := (dC, dI)) (ci := 3) (v := .ref h1) (C := RX3) (T := TX3) (N := 3) hx hb hts (fun _ h => List.mem_cons_of_mem _ (List.mem_append_left _ (List.mem_append_right _ h))) hown hK hP 0 rfl rfl 0 (by decide) (hts (.fieldLink RX3 19 "LeftArguments$LawReader" "tape" "LLeftArguments$Tape;") (List.mem_cons_of_mem _ (List.mem_append_left _ (List.mem_append_left _ (List.mem_of_getElem? (i := 0) rfl))))) (fun _ h9 => h9) rfl dX3_readAtom_111 ?_
          have hPc := hP.sub (ws' := (wd_09b0abee h1 h2 v1 x7 v3 v4)) [1] rfl
          have hDc := hD.sub (ws' := (wd_09b0abee h1 h2 v1 x7 v3 v4)) [1] (by decide) rfl
          have hKc := hK.sub (tys' := []) [] rfl
          have hFc := va_free (wc := (wd_09b0abee h1 h2 v1 x7 v3 v4)) hD hS hA [1] rfl
          refine va_calli (va_runV (As := []) (rest := []) ⟨hx, hb, hml, hown, hts⟩ (k_X10_wrongHere l dC dI h1 h2 v1 x7 v3 v4 ⟨i_v1a, i_v1b⟩ ⟨oa_x7, by first | omega | decide⟩ H.size) (cwV 0 hts g_X3_readAtom_2 rfl rfl rfl (by decide +kernel) ⟨Nat.le_of_ble_eq_true rfl, Nat.le_of_ble_eq_true rfl⟩) (pv_PV10 hPc hKc hDc (q0 := 0) rfl) rfl rfl hl.1 rfl (lv_room (Nat.le_of_ble_eq_true rfl)) dX3_readAtom_114 ⟨Nat.le_of_ble_eq_true rfl, Nat.le_of_ble_eq_true rfl⟩) hS (fun q _ h => hFc q h) hFc (fun ra20 u t H1 locs ht hvm hwra20 hB hz1 hk1 hS => ?_)
          try rw [hwra20] at hB
          obtain ⟨x21, oa_x21, ob_x21, pt0_ra20, pt1_ra20, pt2_ra20, hP1, hK1, hD1⟩ := hB
          rw [ht] at hP1
          obtain ⟨hP2, hD2⟩ := va_join (wr := (wd_6b0d8e05 h0 h1 h3 v0 h2 g0 f5 h3 g1 f6)) (w1 := (wd_09b0abee h1 h2 v1 x7 x21 v4)) hP hD [1] [0, 2, 3] rfl rfl (by decide) (by decide) hk1 hFc hP1 hD1
          clear hP hD hPc hDc hKc hFc hP1 hK1 hD1 hk1 hz1
          generalize H1 = H at hP2 hS ⊢
          have hP := hP2.sub (ws' := (wd_1ad0248d h0 h1 h3 v0 h1 h2 v1 x7 x21 v4 h2 g0 f5 h3 g1 f6)) [0, 3, 1, 2] rfl
          have hD := hD2.sub (ws' := (wd_1ad0248d h0 h1 h3 v0 h1 h2 v1 x7 x21 v4 h2 g0 f5 h3 g1 f6)) [0, 3, 1, 2] (by decide) rfl
          clear hP2 hD2
          obtain rfl : ra20 = (0 : Int32) := pv_cs (by decide) pt0_ra20 pt1_ra20
          subst hQ
          have hP9 := hP.sub (ws' := (wd_1ad0248d h0 h1 h3 v0 h1 h2 v1 x7 x21 v4 h2 g0 f5 h3 g1 f6)) [0, 1, 2, 3] rfl
          have hD9 := hD.sub (ws' := (wd_1ad0248d h0 h1 h3 v0 h1 h2 v1 x7 x21 v4 h2 g0 f5 h3 g1 f6)) [0, 1, 2, 3] (by decide) rfl
          have hK9 := hK.sub (tys' := []) [] rfl
          exact W.zret (v := 0) hx hb hr rfl (fun t ht hW => ⟨⟨0, 0, rfl, rfl, Or.inr (⟨x7, x21, v4, oa_x7, by first | omega | decide, oa_x21, ob_x21, by first | omega | decide, by first | omega | decide, by omega, by show pg_atomF f5 v1.toInt false pg_none _ = _; first | (apply pg_atomF.nmc <;> first | assumption | omega) | (apply pg_atomF.nmf <;> first | assumption | omega) | (apply pg_atomF.num <;> first | assumption | omega) | (apply pg_atomF.lt <;> first | assumption | omega) | (apply pg_atomF.par1 <;> first | assumption | omega) | (apply pg_atomF.par0 <;> first | assumption | omega) | (apply pg_atomF.deep <;> first | assumption | omega) | (apply pg_atomF.bdn <;> first | assumption | omega) | (apply pg_atomF.bad <;> first | assumption | omega), by rw [ht]; exact hP9, va_K.moved hW.alike hK9, hD9⟩)⟩, hS.F ht⟩) hS.2.2 dX3_readAtom_117
      · skip
        have fc10 : ¬ (ra9.toInt = 0) := fun h9 => c10 (Int32.toInt_inj.mp h9)
        refine lv_aload_n hx hb dX3_readAtom_62 rfl (lv_at hl 1 rfl) ?_
        refine va_get (D := (dC, dI)) (ci := 3) (v := .ref h1) (C := RX3) (T := TX3) (N := 3) hx hb hts (fun _ h => List.mem_cons_of_mem _ (List.mem_append_left _ (List.mem_append_right _ h))) hown hK hP 0 rfl rfl 0 (by decide) (hts (.fieldLink RX3 19 "LeftArguments$LawReader" "tape" "LLeftArguments$Tape;") (List.mem_cons_of_mem _ (List.mem_append_left _ (List.mem_append_left _ (List.mem_of_getElem? (i := 0) rfl))))) (fun _ h9 => h9) rfl dX3_readAtom_63 ?_
        refine lv_iconst (v := 4) hx hb dX3_readAtom_66 (by decide) ?_
        have hPc := hP.sub (ws' := (wd_82cdd16b h1 h2 v1 x7 v3 v4 h2 g0 f5)) [1, 2] rfl
        have hDc := hD.sub (ws' := (wd_82cdd16b h1 h2 v1 x7 v3 v4 h2 g0 f5)) [1, 2] (by decide) rfl
        have hKc := hK.sub (tys' := [(g0, .int)]) [0] rfl
        have hFc := va_free (wc := (wd_82cdd16b h1 h2 v1 x7 v3 v4 h2 g0 f5)) hD hS hA [1, 2] rfl
        refine va_calli (va_runV (As := [.int 4]) (rest := []) ⟨hx, hb, hml, hown, hts⟩ (k_X10_takeNumber l dC dI h1 h2 v1 x7 v3 v4 g0 f5 ⟨i_v1a, i_v1b⟩ ⟨oa_x7, by first | omega | decide⟩ ia_f5 H.size) (cwV 1 hts g_X3_readAtom_8 rfl rfl rfl (by decide +kernel) ⟨Nat.le_of_ble_eq_true rfl, Nat.le_of_ble_eq_true rfl⟩) (pv_PV10 hPc hKc hDc (q0 := 0) rfl) rfl rfl hl.1 rfl (lv_room (Nat.le_of_ble_eq_true rfl)) dX3_readAtom_67 ⟨Nat.le_of_ble_eq_true rfl, Nat.le_of_ble_eq_true rfl⟩) hS (fun q _ h => hFc q h) hFc (fun ra22 u t H1 locs ht hvm hwra22 hB hz1 hk1 hS => ?_)
        try rw [hwra22] at hB
        rcases hB with hB | hB
        · skip
          obtain ⟨x23, x24, oa_x23, ob_x23, oa_x24, ob_x24, pt0_ra22, pt1_ra22, pt2_ra22, pt3_ra22, hP1, hK1, hD1⟩ := hB
          rw [ht] at hP1
          obtain ⟨hP2, hD2⟩ := va_join (wr := (wd_b958b9da h0 h1 h3 v0 h3 g1 f6)) (w1 := (wd_82cdd16b h1 h2 v1 x23 v3 x24 h2 g0 f5)) hP hD [1, 2] [0, 3] rfl rfl (by decide) (by decide) hk1 hFc hP1 hD1
          clear hP hD hPc hDc hKc hFc hP1 hK1 hD1 hk1 hz1
          generalize H1 = H at hP2 hS ⊢
          have hP := hP2.sub (ws' := (wd_1ad0248d h0 h1 h3 v0 h1 h2 v1 x23 v3 x24 h2 g0 f5 h3 g1 f6)) [0, 2, 3, 1] rfl
          have hD := hD2.sub (ws' := (wd_1ad0248d h0 h1 h3 v0 h1 h2 v1 x23 v3 x24 h2 g0 f5 h3 g1 f6)) [0, 2, 3, 1] (by decide) rfl
          clear hP2 hD2
          obtain rfl : ra22 = (1 : Int32) := pv_cs (by decide) pt0_ra22 pt1_ra22
          refine lv_if_ne (tgt := 75) hx hb dX3_readAtom_70 (by decide) (fun _ => ?_) (fun c => absurd c (by decide))
          refine lv_aload_n hx hb dX3_readAtom_75 rfl (lv_at hl 1 rfl) ?_
          refine lv_iconst (v := 0) hx hb dX3_readAtom_76 (by decide) ?_
          refine lv_aload_n hx hb dX3_readAtom_77 rfl (lv_at hl 1 rfl) ?_
          refine va_get (D := (dC, dI)) (ci := 3) (v := .ref h1) (C := RX3) (T := TX3) (N := 3) hx hb hts (fun _ h => List.mem_cons_of_mem _ (List.mem_append_left _ (List.mem_append_right _ h))) hown hK hP 0 rfl rfl 0 (by decide) (hts (.fieldLink RX3 19 "LeftArguments$LawReader" "tape" "LLeftArguments$Tape;") (List.mem_cons_of_mem _ (List.mem_append_left _ (List.mem_append_left _ (List.mem_of_getElem? (i := 0) rfl))))) (fun _ h9 => h9) rfl dX3_readAtom_78 ?_
          have hPc := hP.sub (ws' := (wd_09b0abee h1 h2 v1 x23 v3 x24)) [1] rfl
          have hDc := hD.sub (ws' := (wd_09b0abee h1 h2 v1 x23 v3 x24)) [1] (by decide) rfl
          have hKc := hK.sub (tys' := []) [] rfl
          have hFc := va_free (wc := (wd_09b0abee h1 h2 v1 x23 v3 x24)) hD hS hA [1] rfl
          refine va_calli (va_runV (As := []) (rest := [.int 0, .ref h0]) ⟨hx, hb, hml, hown, hts⟩ (k_X10_number l dC dI h1 h2 v1 x23 v3 x24 ⟨i_v1a, i_v1b⟩ H.size) (cwV 0 hts g_X3_readAtom_9 rfl rfl rfl (by decide +kernel) ⟨Nat.le_of_ble_eq_true rfl, Nat.le_of_ble_eq_true rfl⟩) (pv_PV10 hPc hKc hDc (q0 := 0) rfl) rfl rfl hl.1 rfl (lv_room (Nat.le_of_ble_eq_true rfl)) dX3_readAtom_81 ⟨Nat.le_of_ble_eq_true rfl, Nat.le_of_ble_eq_true rfl⟩) hS (fun q _ h => hFc q h) hFc (fun ra25 u t H1 locs ht hvm hwra25 hB hz1 hk1 hS => ?_)
          try rw [hwra25] at hB
          obtain ⟨pt0_ra25, hP1, hK1, hD1⟩ := hB
          rw [ht] at hP1
          obtain ⟨hP2, hD2⟩ := va_join (wr := (wd_6b0d8e05 h0 h1 h3 v0 h2 g0 f5 h3 g1 f6)) (w1 := (wd_09b0abee h1 h2 v1 x23 v3 x24)) hP hD [1] [0, 2, 3] rfl rfl (by decide) (by decide) hk1 hFc hP1 hD1
          clear hP hD hPc hDc hKc hFc hP1 hK1 hD1 hk1 hz1
          generalize H1 = H at hP2 hS ⊢
          have hP := hP2.sub (ws' := (wd_1ad0248d h0 h1 h3 v0 h1 h2 v1 x23 v3 x24 h2 g0 f5 h3 g1 f6)) [0, 3, 1, 2] rfl
          have hD := hD2.sub (ws' := (wd_1ad0248d h0 h1 h3 v0 h1 h2 v1 x23 v3 x24 h2 g0 f5 h3 g1 f6)) [0, 3, 1, 2] (by decide) rfl
          clear hP2 hD2
          obtain rfl : x24 = ra25 := pt0_ra25.symm
          have hPc := hP.sub (ws' := (wd_b958b9da h0 h1 h3 v0 h3 g1 f6)) [0, 3] rfl
          have hDc := hD.sub (ws' := (wd_b958b9da h0 h1 h3 v0 h3 g1 f6)) [0, 3] (by decide) rfl
          have hKc := hK.sub (tys' := [(g1, .int)]) [1] rfl
          have hFc := va_free (wc := (wd_b958b9da h0 h1 h3 v0 h3 g1 f6)) hD hS hA [0, 3] rfl
          refine va_callv (va_runV (As := [.int 0, .int x24]) (rest := []) ⟨hx, hb, hml, hown, hts⟩ (k_X3_write l dC dI h0 h3 h1 v0 g1 f6 0 x24 ⟨i_v0a, i_v0b⟩ H.size) (cwV 2 hts g_X3_readAtom_6 rfl rfl rfl (by decide +kernel) ⟨Nat.le_of_ble_eq_true rfl, Nat.le_of_ble_eq_true rfl⟩) (pv_PV3 hPc hKc hDc (q0 := 0) rfl) rfl rfl hl.1 rfl (lv_room (Nat.le_of_ble_eq_true rfl)) dX3_readAtom_84 ⟨Nat.le_of_ble_eq_true rfl, Nat.le_of_ble_eq_true rfl⟩) hS (fun q _ h => hFc q h) hFc (fun u t H1 locs ht hvm hwra26 hB hz1 hk1 hS => ?_)
          obtain ⟨x27, fn28, oa_x27, ob_x27, hP1, hK1, hD1⟩ := hB
          rw [ht] at hP1
          obtain ⟨hP2, hD2⟩ := va_join (wr := (wd_82cdd16b h1 h2 v1 x23 v3 x24 h2 g0 f5)) (w1 := (wd_b958b9da h0 h1 h3 x27 h3 g1 fn28)) hP hD [0, 3] [1, 2] rfl rfl (by decide) (by decide) hk1 hFc hP1 hD1
          clear hP hD hPc hDc hKc hFc hP1 hK1 hD1 hk1 hz1
          generalize H1 = H at hP2 hS ⊢
          have hP := hP2.sub (ws' := (wd_1ad0248d h0 h1 h3 x27 h1 h2 v1 x23 v3 x24 h2 g0 f5 h3 g1 fn28)) [2, 0, 1, 3] rfl
          have hD := hD2.sub (ws' := (wd_1ad0248d h0 h1 h3 x27 h1 h2 v1 x23 v3 x24 h2 g0 f5 h3 g1 fn28)) [2, 0, 1, 3] (by decide) rfl
          clear hP2 hD2
          refine lv_iconst (v := 1) hx hb dX3_readAtom_87 (by decide) ?_
          subst hQ
          have hP9 := hP.sub (ws' := (wd_1ad0248d h0 h1 h3 x27 h1 h2 v1 x23 v3 x24 h2 g0 f5 h3 g1 fn28)) [0, 1, 2, 3] rfl
          have hD9 := hD.sub (ws' := (wd_1ad0248d h0 h1 h3 x27 h1 h2 v1 x23 v3 x24 h2 g0 f5 h3 g1 fn28)) [0, 1, 2, 3] (by decide) rfl
          have hK9 := hK.sub (tys' := []) [] rfl
          exact W.zret (v := 1) hx hb hr rfl (fun t ht hW => ⟨⟨1, 1, rfl, rfl, Or.inl ⟨x27, x23, x24, fn28, oa_x27, ob_x27, oa_x23, ob_x23, by first | omega | decide, by first | omega | decide, by omega, by show pg_atomF f5 v1.toInt false pg_none _ = _; first | (apply pg_atomF.nmc <;> first | assumption | omega) | (apply pg_atomF.nmf <;> first | assumption | omega) | (apply pg_atomF.num <;> first | assumption | omega) | (apply pg_atomF.lt <;> first | assumption | omega) | (apply pg_atomF.par1 <;> first | assumption | omega) | (apply pg_atomF.par0 <;> first | assumption | omega) | (apply pg_atomF.deep <;> first | assumption | omega) | (apply pg_atomF.bdn <;> first | assumption | omega) | (apply pg_atomF.bad <;> first | assumption | omega), by rw [ht]; exact hP9, va_K.moved hW.alike hK9, hD9⟩⟩, hS.F ht⟩) hS.2.2 dX3_readAtom_88
        · skip
          obtain ⟨x29, x30, x31, oa_x29, ob_x29, oa_x30, ob_x30, pt0_ra22, pt1_ra22, pt2_ra22, pt3_ra22, hP1, hK1, hD1⟩ := hB
          rw [ht] at hP1
          obtain ⟨hP2, hD2⟩ := va_join (wr := (wd_b958b9da h0 h1 h3 v0 h3 g1 f6)) (w1 := (wd_82cdd16b h1 h2 v1 x29 x30 x31 h2 g0 f5)) hP hD [1, 2] [0, 3] rfl rfl (by decide) (by decide) hk1 hFc hP1 hD1
          clear hP hD hPc hDc hKc hFc hP1 hK1 hD1 hk1 hz1
          generalize H1 = H at hP2 hS ⊢
          have hP := hP2.sub (ws' := (wd_1ad0248d h0 h1 h3 v0 h1 h2 v1 x29 x30 x31 h2 g0 f5 h3 g1 f6)) [0, 2, 3, 1] rfl
          have hD := hD2.sub (ws' := (wd_1ad0248d h0 h1 h3 v0 h1 h2 v1 x29 x30 x31 h2 g0 f5 h3 g1 f6)) [0, 2, 3, 1] (by decide) rfl
          clear hP2 hD2
          obtain rfl : ra22 = (0 : Int32) := pv_cs (by decide) pt0_ra22 pt1_ra22
          refine lv_if_ne (tgt := 75) hx hb dX3_readAtom_70 (by decide) (fun c => absurd (by decide) c) (fun _ => ?_)
          refine lv_iconst (v := 0) hx hb dX3_readAtom_73 (by decide) ?_
          subst hQ
          have hP9 := hP.sub (ws' := (wd_1ad0248d h0 h1 h3 v0 h1 h2 v1 x29 x30 x31 h2 g0 f5 h3 g1 f6)) [0, 1, 2, 3] rfl
          have hD9 := hD.sub (ws' := (wd_1ad0248d h0 h1 h3 v0 h1 h2 v1 x29 x30 x31 h2 g0 f5 h3 g1 f6)) [0, 1, 2, 3] (by decide) rfl
          have hK9 := hK.sub (tys' := []) [] rfl
          exact W.zret (v := 0) hx hb hr rfl (fun t ht hW => ⟨⟨0, 0, rfl, rfl, Or.inr (⟨x29, x30, x31, oa_x29, ob_x29, oa_x30, ob_x30, by first | omega | decide, by first | omega | decide, by omega, by show pg_atomF f5 v1.toInt false pg_none _ = _; first | (apply pg_atomF.nmc <;> first | assumption | omega) | (apply pg_atomF.nmf <;> first | assumption | omega) | (apply pg_atomF.num <;> first | assumption | omega) | (apply pg_atomF.lt <;> first | assumption | omega) | (apply pg_atomF.par1 <;> first | assumption | omega) | (apply pg_atomF.par0 <;> first | assumption | omega) | (apply pg_atomF.deep <;> first | assumption | omega) | (apply pg_atomF.bdn <;> first | assumption | omega) | (apply pg_atomF.bad <;> first | assumption | omega), by rw [ht]; exact hP9, va_K.moved hW.alike hK9, hD9⟩)⟩, hS.F ht⟩) hS.2.2 dX3_readAtom_74
    · skip
      have fc8 : ra1.toInt = 91 := congrArg Int32.toInt c8
      refine lv_iload_n hx hb dX3_readAtom_14 rfl (lv_at hl 2 rfl) ?_
      refine lv_bipush (v := 6) hx hb dX3_readAtom_15 (by decide) ?_
      refine lv_icmp_ge (tgt := 55) hx hb dX3_readAtom_17 (by decide) (fun _ => ?_) (fun c => absurd (by decide) c)
      refine lv_iload_n hx hb dX3_readAtom_55 rfl (lv_at hl 0 rfl) ?_
      have hPc := hP.sub (ws' := []) [] rfl
      have hDc := hD.sub (ws' := []) [] (by decide) rfl
      have hKc := hK.sub (tys' := []) [] rfl
      have hFc := va_free (wc := []) hD hS hA [] rfl
      refine va_calli (va_runS (As := [.int ra1]) (rest := []) ⟨hx, hb, hml, hown, hts⟩ (k_X10_isDigit l dC dI ra1  H.size) (va_cwS 1 hts g_X3_readAtom_1 rfl rfl rfl (by decide +kernel) ⟨Nat.le_of_ble_eq_true rfl, Nat.le_of_ble_eq_true rfl⟩) (pv_PS hPc hKc hDc) rfl rfl hl.1 rfl (lv_room (Nat.le_of_ble_eq_true rfl)) dX3_readAtom_56 ⟨Nat.le_of_ble_eq_true rfl, Nat.le_of_ble_eq_true rfl⟩) hS (fun q _ h => hFc q h) hFc (fun ra32 u t H1 locs ht hvm hwra32 hB hz1 hk1 hS => ?_)
      try rw [hwra32] at hB
      obtain ⟨pt0_ra32, pt1_ra32, pt2_ra32, pt3_ra32, pt4_ra32, hP1, hK1, hD1⟩ := hB
      rw [ht] at hP1
      obtain ⟨hP2, hD2⟩ := va_join (wr := (wd_1ad0248d h0 h1 h3 v0 h1 h2 v1 x7 v3 v4 h2 g0 f5 h3 g1 f6)) (w1 := []) hP hD [] [0, 1, 2, 3] rfl rfl (by decide) (by decide) hk1 hFc hP1 hD1
      clear hP hD hPc hDc hKc hFc hP1 hK1 hD1 hk1 hz1
      generalize H1 = H at hP2 hS ⊢
      have hP : va_P (dC, dI) vwCl (wd_1ad0248d h0 h1 h3 v0 h1 h2 v1 x7 v3 v4 h2 g0 f5 h3 g1 f6) H := hP2
      have hD : va_D A (wd_1ad0248d h0 h1 h3 v0 h1 h2 v1 x7 v3 v4 h2 g0 f5 h3 g1 f6) := hD2
      clear hP2 hD2
      refine lv_if_eq (tgt := 89) hx hb dX3_readAtom_59 (by decide) (fun c33 => ?_) (fun c33 => ?_)
      · skip
        have fc33 : ra32.toInt = 0 := congrArg Int32.toInt c33
        refine lv_iload_n hx hb dX3_readAtom_89 rfl (lv_at hl 0 rfl) ?_
        refine lv_iconst (v := (-1)) hx hb dX3_readAtom_90 (by decide) ?_
        refine lv_icmp_ne (tgt := 98) hx hb dX3_readAtom_91 (by decide) (fun _ => ?_) (fun c34 => by exfalso; have fc34 : ra1.toInt = (-1) := congrArg Int32.toInt c34; omega)
        refine va_ldcS hx hb hown h_vr_2 dX3_readAtom_98 ?_
        refine lv_iload_n hx hb dX3_readAtom_100 rfl (lv_at hl 0 rfl) ?_
        obtain ⟨t35, et35⟩ : ∃ z : Int32, z = ((ra1 : Int32).toUInt32 % 65536).toInt32 := ⟨_, rfl⟩
        refine lv_i2c (v := t35) hx hb dX3_readAtom_101 (by rw [et35]) ?_
        have hcct35 : t35.toInt = pg_ch f5 v1.toInt x7.toInt := pg_i2c et35 (by omega) (by omega) (by omega)
        have hPc := hP.sub (ws' := []) [] rfl
        have hDc := hD.sub (ws' := []) [] (by decide) rfl
        have hKc := hK.sub (tys' := []) [] rfl
        have hFc := va_free (wc := []) hD hS hA [] rfl
        refine va_calli (va_runV (As := [.int t35]) (rest := []) ⟨hx, hb, hml, hown, hts⟩ (k_J0_indexOf_0f7a4 l dC dI adK adV t35  H.size) (cwV 1 hts g_X3_readAtom_4 rfl rfl rfl (by decide +kernel) ⟨Nat.le_of_ble_eq_true rfl, Nat.le_of_ble_eq_true rfl⟩) ⟨fun a U g mk q => by obtain ⟨q0, q1, qP, qK, qD, n0, n1⟩ := q; exact ⟨q0, q1, qP, va_K.moved (u := U) (U := U.calling g mk a) (Vm.Alike.refl U.vm) qK, qD, va_Z.moved (Vm.Alike.refl _) n0, vk_S.moved (Vm.Alike.refl _) n1⟩, vk_recv h_st_S (by decide : 2 < 3) hS, fun U hU hW => ⟨rfl, by rw [hU], by rw [hU]; exact hPc, va_K.moved hW.alike hKc, hDc.weaken (fun _ _ _ _ => trivial), (by rw [hU]; exact (va_Z.moved hW.alike (va_Z.kept h_st_CS hS.2.1)).narrow hFc), (by rw [hU]; exact (vk_S.moved hW.alike (vk_S.kept h_st_S hS.2.1)).narrow hFc)⟩⟩ rfl rfl hl.1 rfl (lv_room (Nat.le_of_ble_eq_true rfl)) dX3_readAtom_102 ⟨Nat.le_of_ble_eq_true rfl, Nat.le_of_ble_eq_true rfl⟩) hS (fun q _ h => hFc q h) hFc (fun ra36 u t H1 locs ht hvm hwra36 hB hz1 hk1 hS => ?_)
        try rw [hwra36] at hB
        obtain ⟨pt0_ra36, pt1_ra36, pt2_ra36, hP1, hK1, hD1⟩ := hB
        rw [ht] at hP1
        obtain ⟨hP2, hD2⟩ := va_join (wr := (wd_1ad0248d h0 h1 h3 v0 h1 h2 v1 x7 v3 v4 h2 g0 f5 h3 g1 f6)) (w1 := []) hP hD [] [0, 1, 2, 3] rfl rfl (by decide) (by decide) hk1 hFc hP1 hD1
        clear hP hD hPc hDc hKc hFc hP1 hK1 hD1 hk1 hz1
        generalize H1 = H at hP2 hS ⊢
        have hP : va_P (dC, dI) vwCl (wd_1ad0248d h0 h1 h3 v0 h1 h2 v1 x7 v3 v4 h2 g0 f5 h3 g1 f6) H := hP2
        have hD : va_D A (wd_1ad0248d h0 h1 h3 v0 h1 h2 v1 x7 v3 v4 h2 g0 f5 h3 g1 f6) := hD2
        clear hP2 hD2
        have hltra36 : pm_lt (pg_ch f5 v1.toInt x7.toInt) = ra36.toInt := by rw [show pg_ch f5 v1.toInt x7.toInt = t35.toInt by omega]; omega
        refine lv_istore_n (lv' := [(3, .int ra36), (2, .int ra1), (0, .ref h0), (1, .int 6)]) hx hb dX3_readAtom_105 rfl hl (by decide) rfl (fun ls hl => ?_)
        refine lv_iload_n hx hb dX3_readAtom_106 rfl (lv_at hl 0 rfl) ?_
        refine lv_if_ge (tgt := 118) hx hb dX3_readAtom_107 (by decide) (fun c37 => ?_) (fun c37 => ?_)
        · skip
          have fc37 : 0 ≤ ra36.toInt := Int32.le_iff_toInt_le.mp c37
          refine lv_aload_n hx hb dX3_readAtom_118 rfl (lv_at hl 2 rfl) ?_
          refine va_get (D := (dC, dI)) (ci := 3) (v := .ref h1) (C := RX3) (T := TX3) (N := 3) hx hb hts (fun _ h => List.mem_cons_of_mem _ (List.mem_append_left _ (List.mem_append_right _ h))) hown hK hP 0 rfl rfl 0 (by decide) (hts (.fieldLink RX3 19 "LeftArguments$LawReader" "tape" "LLeftArguments$Tape;") (List.mem_cons_of_mem _ (List.mem_append_left _ (List.mem_append_left _ (List.mem_of_getElem? (i := 0) rfl))))) (fun _ h9 => h9) rfl dX3_readAtom_119 ?_
          have hPc := hP.sub (ws' := (wd_09b0abee h1 h2 v1 x7 v3 v4)) [1] rfl
          have hDc := hD.sub (ws' := (wd_09b0abee h1 h2 v1 x7 v3 v4)) [1] (by decide) rfl
          have hKc := hK.sub (tys' := []) [] rfl
          have hFc := va_free (wc := (wd_09b0abee h1 h2 v1 x7 v3 v4)) hD hS hA [1] rfl
          refine va_callv (va_runV (As := []) (rest := []) ⟨hx, hb, hml, hown, hts⟩ (k_X10_step l dC dI h1 h2 v1 x7 v3 v4 ⟨i_v1a, i_v1b⟩ ⟨oa_x7, ob_x7⟩ H.size) (cwV 0 hts g_X3_readAtom_5 rfl rfl rfl (by decide +kernel) ⟨Nat.le_of_ble_eq_true rfl, Nat.le_of_ble_eq_true rfl⟩) (pv_PV10 hPc hKc hDc (q0 := 0) rfl) rfl rfl hl.1 rfl (lv_room (Nat.le_of_ble_eq_true rfl)) dX3_readAtom_122 ⟨Nat.le_of_ble_eq_true rfl, Nat.le_of_ble_eq_true rfl⟩) hS (fun q _ h => hFc q h) hFc (fun u t H1 locs ht hvm hwra38 hB hz1 hk1 hS => ?_)
          obtain ⟨x39, oa_x39, ob_x39, pt0_ra38, hP1, hK1, hD1⟩ := hB
          rw [ht] at hP1
          obtain ⟨hP2, hD2⟩ := va_join (wr := (wd_6b0d8e05 h0 h1 h3 v0 h2 g0 f5 h3 g1 f6)) (w1 := (wd_09b0abee h1 h2 v1 x39 v3 v4)) hP hD [1] [0, 2, 3] rfl rfl (by decide) (by decide) hk1 hFc hP1 hD1
          clear hP hD hPc hDc hKc hFc hP1 hK1 hD1 hk1 hz1
          generalize H1 = H at hP2 hS ⊢
          have hP := hP2.sub (ws' := (wd_1ad0248d h0 h1 h3 v0 h1 h2 v1 x39 v3 v4 h2 g0 f5 h3 g1 f6)) [0, 3, 1, 2] rfl
          have hD := hD2.sub (ws' := (wd_1ad0248d h0 h1 h3 v0 h1 h2 v1 x39 v3 v4 h2 g0 f5 h3 g1 f6)) [0, 3, 1, 2] (by decide) rfl
          clear hP2 hD2
          refine lv_aload_n hx hb dX3_readAtom_125 rfl (lv_at hl 2 rfl) ?_
          refine lv_iconst (v := 1) hx hb dX3_readAtom_126 (by decide) ?_
          refine lv_iload_n hx hb dX3_readAtom_127 rfl (lv_at hl 0 rfl) ?_
          have hPc := hP.sub (ws' := (wd_b958b9da h0 h1 h3 v0 h3 g1 f6)) [0, 3] rfl
          have hDc := hD.sub (ws' := (wd_b958b9da h0 h1 h3 v0 h3 g1 f6)) [0, 3] (by decide) rfl
          have hKc := hK.sub (tys' := [(g1, .int)]) [1] rfl
          have hFc := va_free (wc := (wd_b958b9da h0 h1 h3 v0 h3 g1 f6)) hD hS hA [0, 3] rfl
          refine va_callv (va_runV (As := [.int 1, .int ra36]) (rest := []) ⟨hx, hb, hml, hown, hts⟩ (k_X3_write l dC dI h0 h3 h1 v0 g1 f6 1 ra36 ⟨i_v0a, i_v0b⟩ H.size) (cwV 2 hts g_X3_readAtom_6 rfl rfl rfl (by decide +kernel) ⟨Nat.le_of_ble_eq_true rfl, Nat.le_of_ble_eq_true rfl⟩) (pv_PV3 hPc hKc hDc (q0 := 0) rfl) rfl rfl hl.1 rfl (lv_room (Nat.le_of_ble_eq_true rfl)) dX3_readAtom_128 ⟨Nat.le_of_ble_eq_true rfl, Nat.le_of_ble_eq_true rfl⟩) hS (fun q _ h => hFc q h) hFc (fun u t H1 locs ht hvm hwra40 hB hz1 hk1 hS => ?_)
          obtain ⟨x41, fn42, oa_x41, ob_x41, hP1, hK1, hD1⟩ := hB
          rw [ht] at hP1
          obtain ⟨hP2, hD2⟩ := va_join (wr := (wd_82cdd16b h1 h2 v1 x39 v3 v4 h2 g0 f5)) (w1 := (wd_b958b9da h0 h1 h3 x41 h3 g1 fn42)) hP hD [0, 3] [1, 2] rfl rfl (by decide) (by decide) hk1 hFc hP1 hD1
          clear hP hD hPc hDc hKc hFc hP1 hK1 hD1 hk1 hz1
          generalize H1 = H at hP2 hS ⊢
          have hP := hP2.sub (ws' := (wd_1ad0248d h0 h1 h3 x41 h1 h2 v1 x39 v3 v4 h2 g0 f5 h3 g1 fn42)) [2, 0, 1, 3] rfl
          have hD := hD2.sub (ws' := (wd_1ad0248d h0 h1 h3 x41 h1 h2 v1 x39 v3 v4 h2 g0 f5 h3 g1 fn42)) [2, 0, 1, 3] (by decide) rfl
          clear hP2 hD2
          refine lv_iconst (v := 1) hx hb dX3_readAtom_131 (by decide) ?_
          subst hQ
          have hP9 := hP.sub (ws' := (wd_1ad0248d h0 h1 h3 x41 h1 h2 v1 x39 v3 v4 h2 g0 f5 h3 g1 fn42)) [0, 1, 2, 3] rfl
          have hD9 := hD.sub (ws' := (wd_1ad0248d h0 h1 h3 x41 h1 h2 v1 x39 v3 v4 h2 g0 f5 h3 g1 fn42)) [0, 1, 2, 3] (by decide) rfl
          have hK9 := hK.sub (tys' := []) [] rfl
          exact W.zret (v := 1) hx hb hr rfl (fun t ht hW => ⟨⟨1, 1, rfl, rfl, Or.inl ⟨x41, x39, v4, fn42, oa_x41, ob_x41, by first | omega | decide, ob_x39, by first | omega | decide, by first | omega | decide, by omega, by show pg_atomF f5 v1.toInt false pg_none _ = _; first | (apply pg_atomF.nmc <;> first | assumption | omega) | (apply pg_atomF.nmf <;> first | assumption | omega) | (apply pg_atomF.num <;> first | assumption | omega) | (apply pg_atomF.lt <;> first | assumption | omega) | (apply pg_atomF.par1 <;> first | assumption | omega) | (apply pg_atomF.par0 <;> first | assumption | omega) | (apply pg_atomF.deep <;> first | assumption | omega) | (apply pg_atomF.bdn <;> first | assumption | omega) | (apply pg_atomF.bad <;> first | assumption | omega), by rw [ht]; exact hP9, va_K.moved hW.alike hK9, hD9⟩⟩, hS.F ht⟩) hS.2.2 dX3_readAtom_132
        · skip
          have fc37 : ¬ (0 ≤ ra36.toInt) := fun h9 => c37 (Int32.le_iff_toInt_le.mpr h9)
          refine lv_aload_n hx hb dX3_readAtom_110 rfl (lv_at hl 2 rfl) ?_
          refine va_get (D := (dC, dI)) (ci := 3) (v := .ref h1) (C := RX3) (T := TX3) (N := 3) hx hb hts (fun _ h => List.mem_cons_of_mem _ (List.mem_append_left _ (List.mem_append_right _ h))) hown hK hP 0 rfl rfl 0 (by decide) (hts (.fieldLink RX3 19 "LeftArguments$LawReader" "tape" "LLeftArguments$Tape;") (List.mem_cons_of_mem _ (List.mem_append_left _ (List.mem_append_left _ (List.mem_of_getElem? (i := 0) rfl))))) (fun _ h9 => h9) rfl dX3_readAtom_111 ?_
          have hPc := hP.sub (ws' := (wd_09b0abee h1 h2 v1 x7 v3 v4)) [1] rfl
          have hDc := hD.sub (ws' := (wd_09b0abee h1 h2 v1 x7 v3 v4)) [1] (by decide) rfl
          have hKc := hK.sub (tys' := []) [] rfl
          have hFc := va_free (wc := (wd_09b0abee h1 h2 v1 x7 v3 v4)) hD hS hA [1] rfl
          refine va_calli (va_runV (As := []) (rest := []) ⟨hx, hb, hml, hown, hts⟩ (k_X10_wrongHere l dC dI h1 h2 v1 x7 v3 v4 ⟨i_v1a, i_v1b⟩ ⟨oa_x7, by first | omega | decide⟩ H.size) (cwV 0 hts g_X3_readAtom_2 rfl rfl rfl (by decide +kernel) ⟨Nat.le_of_ble_eq_true rfl, Nat.le_of_ble_eq_true rfl⟩) (pv_PV10 hPc hKc hDc (q0 := 0) rfl) rfl rfl hl.1 rfl (lv_room (Nat.le_of_ble_eq_true rfl)) dX3_readAtom_114 ⟨Nat.le_of_ble_eq_true rfl, Nat.le_of_ble_eq_true rfl⟩) hS (fun q _ h => hFc q h) hFc (fun ra43 u t H1 locs ht hvm hwra43 hB hz1 hk1 hS => ?_)
          try rw [hwra43] at hB
          obtain ⟨x44, oa_x44, ob_x44, pt0_ra43, pt1_ra43, pt2_ra43, hP1, hK1, hD1⟩ := hB
          rw [ht] at hP1
          obtain ⟨hP2, hD2⟩ := va_join (wr := (wd_6b0d8e05 h0 h1 h3 v0 h2 g0 f5 h3 g1 f6)) (w1 := (wd_09b0abee h1 h2 v1 x7 x44 v4)) hP hD [1] [0, 2, 3] rfl rfl (by decide) (by decide) hk1 hFc hP1 hD1
          clear hP hD hPc hDc hKc hFc hP1 hK1 hD1 hk1 hz1
          generalize H1 = H at hP2 hS ⊢
          have hP := hP2.sub (ws' := (wd_1ad0248d h0 h1 h3 v0 h1 h2 v1 x7 x44 v4 h2 g0 f5 h3 g1 f6)) [0, 3, 1, 2] rfl
          have hD := hD2.sub (ws' := (wd_1ad0248d h0 h1 h3 v0 h1 h2 v1 x7 x44 v4 h2 g0 f5 h3 g1 f6)) [0, 3, 1, 2] (by decide) rfl
          clear hP2 hD2
          obtain rfl : ra43 = (0 : Int32) := pv_cs (by decide) pt0_ra43 pt1_ra43
          subst hQ
          have hP9 := hP.sub (ws' := (wd_1ad0248d h0 h1 h3 v0 h1 h2 v1 x7 x44 v4 h2 g0 f5 h3 g1 f6)) [0, 1, 2, 3] rfl
          have hD9 := hD.sub (ws' := (wd_1ad0248d h0 h1 h3 v0 h1 h2 v1 x7 x44 v4 h2 g0 f5 h3 g1 f6)) [0, 1, 2, 3] (by decide) rfl
          have hK9 := hK.sub (tys' := []) [] rfl
          exact W.zret (v := 0) hx hb hr rfl (fun t ht hW => ⟨⟨0, 0, rfl, rfl, Or.inr (⟨x7, x44, v4, oa_x7, by first | omega | decide, oa_x44, ob_x44, by first | omega | decide, by first | omega | decide, by omega, by show pg_atomF f5 v1.toInt false pg_none _ = _; first | (apply pg_atomF.nmc <;> first | assumption | omega) | (apply pg_atomF.nmf <;> first | assumption | omega) | (apply pg_atomF.num <;> first | assumption | omega) | (apply pg_atomF.lt <;> first | assumption | omega) | (apply pg_atomF.par1 <;> first | assumption | omega) | (apply pg_atomF.par0 <;> first | assumption | omega) | (apply pg_atomF.deep <;> first | assumption | omega) | (apply pg_atomF.bdn <;> first | assumption | omega) | (apply pg_atomF.bad <;> first | assumption | omega), by rw [ht]; exact hP9, va_K.moved hW.alike hK9, hD9⟩)⟩, hS.F ht⟩) hS.2.2 dX3_readAtom_117
      · skip
        have fc33 : ¬ (ra32.toInt = 0) := fun h9 => c33 (Int32.toInt_inj.mp h9)
        exfalso; omega
def q_X3_readTerm : List Cond := .code yX3_readTerm cX3_readTerm 4 (some .boolean) :: (([.code yX3_readAtom cX3_readAtom 4 (some .boolean), .fieldLink RX3 19 "LeftArguments$LawReader" "tape" "LLeftArguments$Tape;", .code yX10_next cX10_next 1 (some .int), .fieldLink RX10 19 "LeftArguments$Tape" "at" "I", .fieldLink RX10 15 "LeftArguments$Tape" "used" "I", .fieldLink RX10 9 "LeftArguments$Tape" "bytes" "[I", .initialized RX10, .instanceMethod yX10_next, .selects RX10 yX10_next yX10_next, .methodLink RX3 48 yX10_next, .code yX10_isDigit cX10_isDigit 1 (some .boolean), .static yX10_isDigit, .methodLink RX3 92 yX10_isDigit, .code yX10_wrongHere cX10_wrongHere 1 (some .boolean), .fieldLink RX10 22 "LeftArguments$Tape" "wrongAt" "I", .instanceMethod yX10_wrongHere, .selects RX10 yX10_wrongHere yX10_wrongHere, .methodLink RX3 83 yX10_wrongHere, .code yJ0_indexOf_0f7a4 cJ0_indexOf_0f7a4 2 (some .int), .code yJ0_indexOf_7cf53 cJ0_indexOf_7cf53 3 (some .int), .code yJ0_isLatin1_aae02 cJ0_isLatin1_aae02 1 (some .boolean), .fieldLink RJ0 38 "java/lang/String" "COMPACT_STRINGS" "Z", .fieldLink RJ0 15 "java/lang/String" "coder" "B", .initialized RJ0, .instanceMethod yJ0_isLatin1_aae02, .selects RJ0 yJ0_isLatin1_aae02 yJ0_isLatin1_aae02, .methodLink RJ0 492 yJ0_isLatin1_aae02, .fieldLink RJ0 9 "java/lang/String" "value" "[B", .code yJ0_length_8abf5 cJ0_length_8abf5 1 (some .int), .code yJ0_coder_7d493 cJ0_coder_7d493 1 (some .byte), .instanceMethod yJ0_coder_7d493, .selects RJ0 yJ0_coder_7d493 yJ0_coder_7d493, .methodLink RJ0 335 yJ0_coder_7d493, .instanceMethod yJ0_length_8abf5, .selects RJ0 yJ0_length_8abf5 yJ0_length_8abf5, .methodLink RJ0 505 yJ0_length_8abf5, .code yJ1_indexOf_4cfef cJ1_indexOf_4cfef 4 (some .int), .code yJ1_canEncode_9a6ad cJ1_canEncode_9a6ad 1 (some .boolean), .initialized RJ1, .static yJ1_canEncode_9a6ad, .methodLink RJ1 88 yJ1_canEncode_9a6ad, .methodLink RJ1 92 Lib.Math.max.name, .static Lib.Math.max.name, .initialized "java/lang/Math", .code Lib.Math.max.name Lib.Math.max.code 2 (some .int), .methodLink RJ1 38 Lib.Math.min.name, .static Lib.Math.min.name, .code Lib.Math.min.name Lib.Math.min.code 2 (some .int), .code yJ1_indexOfChar_4cfef cJ1_indexOfChar_4cfef 6 (some .int), .static yJ1_indexOfChar_4cfef, .methodLink RJ1 95 yJ1_indexOfChar_4cfef, .static yJ1_indexOf_4cfef, .methodLink RJ0 637 yJ1_indexOf_4cfef, .instanceMethod yJ0_indexOf_7cf53, .selects RJ0 yJ0_indexOf_7cf53 yJ0_indexOf_7cf53, .methodLink RJ0 633 yJ0_indexOf_7cf53, .instanceMethod yJ0_indexOf_0f7a4, .selects RJ0 yJ0_indexOf_0f7a4 yJ0_indexOf_0f7a4, .methodLink RX3 103 yJ0_indexOf_0f7a4, .code yX10_step cX10_step 1 none, .instanceMethod yX10_step, .selects RX10 yX10_step yX10_step, .methodLink RX3 77 yX10_step, .code yX3_write cX3_write 3 none, .fieldLink RX3 15 "LeftArguments$LawReader" "used" "I", .fieldLink RX3 11 "LeftArguments$LawReader" "code" "[I", .initialized RX3, .instanceMethod yX3_write, .selects RX3 yX3_write yX3_write, .methodLink RX3 66 yX3_write, .code yX10_takeNumber cX10_takeNumber 3 (some .boolean), .methodLink RX10 37 yX10_next, .methodLink RX10 45 yX10_isDigit, .methodLink RX10 41 yX10_wrongHere, .fieldLink RX10 25 "LeftArguments$Tape" "number" "I", .code yX10_sign cX10_sign 1 (some .int), .instanceMethod yX10_sign, .selects RX10 yX10_sign yX10_sign, .methodLink RX10 49 yX10_sign, .instanceMethod yX10_takeNumber, .selects RX10 yX10_takeNumber yX10_takeNumber, .methodLink RX3 95 yX10_takeNumber, .code yX10_number cX10_number 1 (some .int), .instanceMethod yX10_number, .selects RX10 yX10_number yX10_number, .methodLink RX3 98 yX10_number, .instanceMethod yX3_readAtom, .selects RX3 yX3_readAtom yX3_readAtom, .methodLink RX3 89 yX3_readAtom] : List Cond) ++ wsX30 ++ wsX100)
set_option maxRecDepth 20000 in
theorem g_X3_readTerm_0 : GoodIn q_X3_readTerm (wsV RX3 89 RX3 yX3_readAtom q_X3_readAtom) := goodIn_app (goodIn_r _ [89, 87, 88, 67] rfl (by decide +kernel)) (goodIn_ca (goodIn_ca (goodIn_r (.code yX3_readAtom cX3_readAtom 4 (some .boolean) :: [.fieldLink RX3 19 "LeftArguments$LawReader" "tape" "LLeftArguments$Tape;", .code yX10_next cX10_next 1 (some .int), .fieldLink RX10 19 "LeftArguments$Tape" "at" "I", .fieldLink RX10 15 "LeftArguments$Tape" "used" "I", .fieldLink RX10 9 "LeftArguments$Tape" "bytes" "[I", .initialized RX10, .instanceMethod yX10_next, .selects RX10 yX10_next yX10_next, .methodLink RX3 48 yX10_next, .code yX10_isDigit cX10_isDigit 1 (some .boolean), .static yX10_isDigit, .methodLink RX3 92 yX10_isDigit, .code yX10_wrongHere cX10_wrongHere 1 (some .boolean), .fieldLink RX10 22 "LeftArguments$Tape" "wrongAt" "I", .instanceMethod yX10_wrongHere, .selects RX10 yX10_wrongHere yX10_wrongHere, .methodLink RX3 83 yX10_wrongHere, .code yJ0_indexOf_0f7a4 cJ0_indexOf_0f7a4 2 (some .int), .code yJ0_indexOf_7cf53 cJ0_indexOf_7cf53 3 (some .int), .code yJ0_isLatin1_aae02 cJ0_isLatin1_aae02 1 (some .boolean), .fieldLink RJ0 38 "java/lang/String" "COMPACT_STRINGS" "Z", .fieldLink RJ0 15 "java/lang/String" "coder" "B", .initialized RJ0, .instanceMethod yJ0_isLatin1_aae02, .selects RJ0 yJ0_isLatin1_aae02 yJ0_isLatin1_aae02, .methodLink RJ0 492 yJ0_isLatin1_aae02, .fieldLink RJ0 9 "java/lang/String" "value" "[B", .code yJ0_length_8abf5 cJ0_length_8abf5 1 (some .int), .code yJ0_coder_7d493 cJ0_coder_7d493 1 (some .byte), .instanceMethod yJ0_coder_7d493, .selects RJ0 yJ0_coder_7d493 yJ0_coder_7d493, .methodLink RJ0 335 yJ0_coder_7d493, .instanceMethod yJ0_length_8abf5, .selects RJ0 yJ0_length_8abf5 yJ0_length_8abf5, .methodLink RJ0 505 yJ0_length_8abf5, .code yJ1_indexOf_4cfef cJ1_indexOf_4cfef 4 (some .int), .code yJ1_canEncode_9a6ad cJ1_canEncode_9a6ad 1 (some .boolean), .initialized RJ1, .static yJ1_canEncode_9a6ad, .methodLink RJ1 88 yJ1_canEncode_9a6ad, .methodLink RJ1 92 Lib.Math.max.name, .static Lib.Math.max.name, .initialized "java/lang/Math", .code Lib.Math.max.name Lib.Math.max.code 2 (some .int), .methodLink RJ1 38 Lib.Math.min.name, .static Lib.Math.min.name, .code Lib.Math.min.name Lib.Math.min.code 2 (some .int), .code yJ1_indexOfChar_4cfef cJ1_indexOfChar_4cfef 6 (some .int), .static yJ1_indexOfChar_4cfef, .methodLink RJ1 95 yJ1_indexOfChar_4cfef, .static yJ1_indexOf_4cfef, .methodLink RJ0 637 yJ1_indexOf_4cfef, .instanceMethod yJ0_indexOf_7cf53, .selects RJ0 yJ0_indexOf_7cf53 yJ0_indexOf_7cf53, .methodLink RJ0 633 yJ0_indexOf_7cf53, .instanceMethod yJ0_indexOf_0f7a4, .selects RJ0 yJ0_indexOf_0f7a4 yJ0_indexOf_0f7a4, .methodLink RX3 103 yJ0_indexOf_0f7a4, .code yX10_step cX10_step 1 none, .instanceMethod yX10_step, .selects RX10 yX10_step yX10_step, .methodLink RX3 77 yX10_step, .code yX3_write cX3_write 3 none, .fieldLink RX3 15 "LeftArguments$LawReader" "used" "I", .fieldLink RX3 11 "LeftArguments$LawReader" "code" "[I", .initialized RX3, .instanceMethod yX3_write, .selects RX3 yX3_write yX3_write, .methodLink RX3 66 yX3_write, .code yX10_takeNumber cX10_takeNumber 3 (some .boolean), .methodLink RX10 37 yX10_next, .methodLink RX10 45 yX10_isDigit, .methodLink RX10 41 yX10_wrongHere, .fieldLink RX10 25 "LeftArguments$Tape" "number" "I", .code yX10_sign cX10_sign 1 (some .int), .instanceMethod yX10_sign, .selects RX10 yX10_sign yX10_sign, .methodLink RX10 49 yX10_sign, .instanceMethod yX10_takeNumber, .selects RX10 yX10_takeNumber yX10_takeNumber, .methodLink RX3 95 yX10_takeNumber, .code yX10_number cX10_number 1 (some .int), .instanceMethod yX10_number, .selects RX10 yX10_number yX10_number, .methodLink RX3 98 yX10_number]) [1, 2, 3, 4, 5, 6, 7, 8, 9, 10, 11, 12, 13, 14, 15, 16, 17, 18, 19, 20, 21, 22, 23, 24, 25, 26, 27, 28, 29, 30, 31, 32, 33, 34, 35, 36, 37, 38, 39, 40, 41, 42, 43, 44, 45, 46, 47, 48, 49, 50, 51, 52, 53, 54, 55, 56, 57, 58, 59, 60, 61, 62, 63, 64, 65, 66, 67, 68, 69, 70, 71, 72, 73, 74, 75, 76, 77, 78, 79, 80, 81, 82, 83, 84, 85, 86] rfl (by decide +kernel)) (goodIn_sub (fun _ h => List.mem_cons_of_mem _ (List.mem_append_left _ (List.mem_append_right _ h))) gwX3)) (goodIn_sub (fun _ h => List.mem_cons_of_mem _ (List.mem_append_right _ h)) gwX10))
set_option maxRecDepth 20000 in
theorem g_X3_readTerm_1 : GoodIn q_X3_readTerm (wsV RX3 48 RX10 yX10_next q_X10_next) := goodIn_app (goodIn_r _ [10, 8, 9, 7] rfl (by decide +kernel)) (goodIn_ca (goodIn_r (.code yX10_next cX10_next 1 (some .int) :: [.fieldLink RX10 19 "LeftArguments$Tape" "at" "I", .fieldLink RX10 15 "LeftArguments$Tape" "used" "I", .fieldLink RX10 9 "LeftArguments$Tape" "bytes" "[I"]) [3, 4, 5, 6] rfl (by decide +kernel)) (goodIn_sub (fun _ h => List.mem_cons_of_mem _ (List.mem_append_right _ h)) gwX10))
set_option maxRecDepth 20000 in
theorem g_X3_readTerm_2 : GoodIn q_X3_readTerm (wsV RX3 77 RX10 yX10_step q_X10_step) := goodIn_app (goodIn_r _ [63, 61, 62, 7] rfl (by decide +kernel)) (goodIn_ca (goodIn_r (.code yX10_step cX10_step 1 none :: [.fieldLink RX10 19 "LeftArguments$Tape" "at" "I"]) [60, 4] rfl (by decide +kernel)) (goodIn_sub (fun _ h => List.mem_cons_of_mem _ (List.mem_append_right _ h)) gwX10))
set_option maxRecDepth 20000 in
theorem g_X3_readTerm_4 : GoodIn q_X3_readTerm (wsV RX3 66 RX3 yX3_write q_X3_write) := goodIn_app (goodIn_r _ [70, 68, 69, 67] rfl (by decide +kernel)) (goodIn_ca (goodIn_r (.code yX3_write cX3_write 3 none :: [.fieldLink RX3 15 "LeftArguments$LawReader" "used" "I", .fieldLink RX3 11 "LeftArguments$LawReader" "code" "[I"]) [64, 65, 66] rfl (by decide +kernel)) (goodIn_sub (fun _ h => List.mem_cons_of_mem _ (List.mem_append_left _ (List.mem_append_right _ h))) gwX3))
set_option maxHeartbeats 4000000 in
set_option maxRecDepth 100000 in
theorem k_X3_readTerm (l : Launch) (dC : Nat → ClassId) (dI : Nat → Nat → Nat) (adK : Nat → Nat) (adV : Nat → Nat) (h0 : Nat) (h1 : Nat) (h2 : Nat) (h3 : Nat) (v0 : Int32) (v1 : Int32) (v2 : Int32) (v3 : Int32) (v4 : Int32) (g0 : ClassId) (f5 : Nat → Int32) (g1 : ClassId) (f6 : Nat → Int32) (i_v0 : 0 ≤ v0.toInt ∧ v0.toInt ≤ 256) (i_v1 : 0 ≤ v1.toInt ∧ v1.toInt ≤ 240) (i_v2 : 0 ≤ v2.toInt ∧ v2.toInt ≤ 240) (ia_f5 : (∀ j, 0 ≤ (f5 j).toInt ∧ (f5 j).toInt ≤ 255)) (sz : Nat) : Met l yX3_readTerm q_X3_readTerm ({ frames := 5, cells := 0, slots := 0, locals := 114 }) (va_Pc [.ref h0, .int 6] (fun U => U.heap.size = sz ∧ va_P (dC, dI) vwCl (wd_1ad0248d h0 h1 h3 v0 h1 h2 v1 v2 v3 v4 h2 g0 f5 h3 g1 f6) U.heap ∧ va_K (dC, dI) vwCl [(g0, .int), (g1, .int)] U ∧ va_D (fun _ => True) (wd_1ad0248d h0 h1 h3 v0 h1 h2 v1 v2 v3 v4 h2 g0 f5 h3 g1 f6) ∧ vk_R RX3 101 "zaondt" (adK 2) U ∧ va_Z "java/lang/String" "COMPACT_STRINGS" "Z" (.int 1) (va_A (wd_1ad0248d h0 h1 h3 v0 h1 h2 v1 v2 v3 v4 h2 g0 f5 h3 g1 f6) sz) U U.heap ∧ vk_S 3 pv_len3 pv_byt3 adK adV (va_A (wd_1ad0248d h0 h1 h3 v0 h1 h2 v1 v2 v3 v4 h2 g0 f5 h3 g1 f6) sz) U U.heap)) (va_Qi (fun (r : Int32) (r9 : Int32) => r9 = r) (fun (r : Int32) (t : State) => (∃ (o_h0_2 : Int32) (o_h1_2 : Int32) (o_h1_4 : Int32) (o_h3 : Nat → Int32), 0 ≤ o_h0_2.toInt ∧ o_h0_2.toInt ≤ 256 ∧ 0 ≤ o_h1_2.toInt ∧ o_h1_2.toInt ≤ 240 ∧ (1 ≤ r.toInt) ∧ (r.toInt ≤ 1) ∧ (v2.toInt ≤ o_h1_2.toInt) ∧ (pg_term f5 v1.toInt 0 v2.toInt = (true, o_h1_2.toInt)) ∧ va_P (dC, dI) vwCl (wd_1ad0248d h0 h1 h3 o_h0_2 h1 h2 v1 o_h1_2 v3 o_h1_4 h2 g0 f5 h3 g1 o_h3) t.heap ∧ va_K (dC, dI) vwCl [] t ∧ va_D (va_A (wd_1ad0248d h0 h1 h3 v0 h1 h2 v1 v2 v3 v4 h2 g0 f5 h3 g1 f6) sz) (wd_1ad0248d h0 h1 h3 o_h0_2 h1 h2 v1 o_h1_2 v3 o_h1_4 h2 g0 f5 h3 g1 o_h3)) ∨ (∃ (o_h0_2 : Int32) (o_h1_2 : Int32) (o_h1_3 : Int32) (o_h1_4 : Int32) (o_h3 : Nat → Int32), 0 ≤ o_h0_2.toInt ∧ o_h0_2.toInt ≤ 256 ∧ 0 ≤ o_h1_2.toInt ∧ o_h1_2.toInt ≤ 240 ∧ 0 ≤ o_h1_3.toInt ∧ o_h1_3.toInt ≤ 240 ∧ (0 ≤ r.toInt) ∧ (r.toInt ≤ 0) ∧ (v2.toInt ≤ o_h1_2.toInt) ∧ (pg_term f5 v1.toInt 0 v2.toInt = (false, o_h1_3.toInt)) ∧ va_P (dC, dI) vwCl (wd_1ad0248d h0 h1 h3 o_h0_2 h1 h2 v1 o_h1_2 o_h1_3 o_h1_4 h2 g0 f5 h3 g1 o_h3) t.heap ∧ va_K (dC, dI) vwCl [] t ∧ va_D (va_A (wd_1ad0248d h0 h1 h3 v0 h1 h2 v1 v2 v3 v4 h2 g0 f5 h3 g1 f6) sz) (wd_1ad0248d h0 h1 h3 o_h0_2 h1 h2 v1 o_h1_2 o_h1_3 o_h1_4 h2 g0 f5 h3 g1 o_h3))) (va_A (wd_1ad0248d h0 h1 h3 v0 h1 h2 v1 v2 v3 v4 h2 g0 f5 h3 g1 f6) sz)) 0 0 (va_A (wd_1ad0248d h0 h1 h3 v0 h1 h2 v1 v2 v3 v4 h2 g0 f5 h3 g1 f6) sz) := by
  refine Met.ofW (cc := cX3_readTerm) (maxL := 4) (ret := (some .boolean)) (by decide) rfl ?_
  intro p e s m args below meth c s₁ B hml hv
  obtain ⟨i_v0a, i_v0b⟩ := i_v0
  obtain ⟨i_v1a, i_v1b⟩ := i_v1
  obtain ⟨i_v2a, i_v2b⟩ := i_v2
  obtain ⟨rfl, hsz, hP, hK, hD0, h_vr_2, h_st_CS, h_st_S⟩ := hv
  have hx := B.exec
  have hb := B.bytes
  have hr := B.returns
  have hts := atoms_spec (ws := q_X3_readTerm) B.pre
  have hown : s.vm.findClass RX3 = some m.cls := findClass_of_methodNamed B.named
  have hlocks := B.notSynchronized
  subst hsz
  have hD := hD0.self (sz := s.heap.size)
  generalize hAe : va_A (wd_1ad0248d h0 h1 h3 v0 h1 h2 v1 v2 v3 v4 h2 g0 f5 h3 g1 f6) s.heap.size = A at hD h_st_CS h_st_S ⊢
  have hA : ∀ q : Nat, s.heap.size ≤ q → A q := fun q h => by rw [← hAe]; exact Or.inr h
  have hS : va_S A s.heap s.heap [] := va_S.rf
  generalize hQ : (MQ below _ _ s 0 0 A) = Q
  have hl := lv_entry ([.ref h0, .int 6]) (n := 4) (Nat.le_of_ble_eq_true rfl)
  rw [lg_entry_eq]
  generalize (lg_sl ([.ref h0, .int 6]) ++ List.replicate (4 - (lg_sl ([.ref h0, .int 6])).length) Slot.unset).toArray = ls at hl ⊢
  have hl : lv_has ls 4 [(0, .ref h0), (1, .int 6)] := hl
  obtain ⟨H, hH⟩ : ∃ H : Heap, H = s.heap := ⟨_, rfl⟩
  obtain ⟨locs, hlocs⟩ : ∃ y : List Loc, y = [] := ⟨_, rfl⟩
  have hS : va_S A s.heap H locs := by rw [hH, hlocs]; exact va_S.rf
  have hP : va_P (dC, dI) vwCl (wd_1ad0248d h0 h1 h3 v0 h1 h2 v1 v2 v3 v4 h2 g0 f5 h3 g1 f6) H := by rw [hH]; exact hP
  rw [← hH, ← hlocs]
  refine lv_aload_n hx hb dX3_readTerm_0 rfl (lv_at hl 0 rfl) ?_
  refine lv_iload_n hx hb dX3_readTerm_1 rfl (lv_at hl 1 rfl) ?_
  have hPc := hP.sub (ws' := (wd_1ad0248d h0 h1 h3 v0 h1 h2 v1 v2 v3 v4 h2 g0 f5 h3 g1 f6)) [0, 1, 2, 3] rfl
  have hDc := hD.sub (ws' := (wd_1ad0248d h0 h1 h3 v0 h1 h2 v1 v2 v3 v4 h2 g0 f5 h3 g1 f6)) [0, 1, 2, 3] (by decide) rfl
  have hKc := hK.sub (tys' := [(g0, .int), (g1, .int)]) [0, 1] rfl
  have hFc := va_free (wc := (wd_1ad0248d h0 h1 h3 v0 h1 h2 v1 v2 v3 v4 h2 g0 f5 h3 g1 f6)) hD hS hA [0, 1, 2, 3] rfl
  refine va_calli (va_runV (As := [.int 6]) (rest := []) ⟨hx, hb, hml, hown, hts⟩ (k_X3_readAtom l dC dI adK adV h0 h1 h2 h3 v0 v1 v2 v3 v4 g0 f5 g1 f6 ⟨i_v0a, i_v0b⟩ ⟨i_v1a, i_v1b⟩ ⟨i_v2a, i_v2b⟩ ia_f5 H.size) (cwV 1 hts g_X3_readTerm_0 rfl rfl rfl (by decide +kernel) ⟨Nat.le_of_ble_eq_true rfl, Nat.le_of_ble_eq_true rfl⟩) ⟨fun a U g mk q => by obtain ⟨q0, q1, qP, qK, qD, n0, n1, n2⟩ := q; exact ⟨q0, q1, qP, va_K.moved (u := U) (U := U.calling g mk a) (Vm.Alike.refl U.vm) qK, qD, vk_R.same rfl n0, va_Z.moved (Vm.Alike.refl _) n1, vk_S.moved (Vm.Alike.refl _) n2⟩, pv_rc3 hKc hPc (q0 := 0) rfl, fun U hU hW => ⟨rfl, by rw [hU], by rw [hU]; exact hPc, va_K.moved hW.alike hKc, hDc.weaken (fun _ _ _ _ => trivial), vk_R.warm hW h_vr_2, (by rw [hU]; exact (va_Z.moved hW.alike (va_Z.kept h_st_CS hS.2.1)).narrow hFc), (by rw [hU]; exact (vk_S.moved hW.alike (vk_S.kept h_st_S hS.2.1)).narrow hFc)⟩⟩ rfl rfl hl.1 rfl (lv_room (Nat.le_of_ble_eq_true rfl)) dX3_readTerm_2 ⟨Nat.le_of_ble_eq_true rfl, Nat.le_of_ble_eq_true rfl⟩) hS (fun q _ h => hFc q h) hFc (fun ra1 u t H1 locs ht hvm hwra1 hB hz1 hk1 hS => ?_)
  try rw [hwra1] at hB
  rcases hB with hB | hB
  · skip
    obtain ⟨x2, x3, x4, fn5, oa_x2, ob_x2, oa_x3, ob_x3, pt0_ra1, pt1_ra1, pt2_ra1, pt3_ra1, hP1, hK1, hD1⟩ := hB
    rw [ht] at hP1
    obtain ⟨hP2, hD2⟩ := va_join (wr := []) (w1 := (wd_1ad0248d h0 h1 h3 x2 h1 h2 v1 x3 v3 x4 h2 g0 f5 h3 g1 fn5)) hP hD [0, 1, 2, 3] [] rfl rfl (by decide) (by decide) hk1 hFc hP1 hD1
    clear hP hD hPc hDc hKc hFc hP1 hK1 hD1 hk1 hz1
    generalize H1 = H at hP2 hS ⊢
    have hP : va_P (dC, dI) vwCl (wd_1ad0248d h0 h1 h3 x2 h1 h2 v1 x3 v3 x4 h2 g0 f5 h3 g1 fn5) H := hP2
    have hD : va_D A (wd_1ad0248d h0 h1 h3 x2 h1 h2 v1 x3 v3 x4 h2 g0 f5 h3 g1 fn5) := hD2
    clear hP2 hD2
    obtain rfl : ra1 = (1 : Int32) := pv_cs (by decide) pt0_ra1 pt1_ra1
    refine lv_if_ne (tgt := 10) hx hb dX3_readTerm_5 (by decide) (fun _ => ?_) (fun c => absurd c (by decide))
    refine lv_iconst (v := 0) hx hb dX3_readTerm_10 (by decide) ?_
    refine lv_istore_n (lv' := [(2, .int 0), (0, .ref h0), (1, .int 6)]) hx hb dX3_readTerm_11 rfl hl (by decide) rfl (fun ls hl => ?_)
    have hL101 : ∀ (n9 : Nat), ∀ (x91 : Int32) (x92 : Int32) (x93 : Int32) (x94 : Int32) (fn95 : Nat → Int32) (H : Heap) (locs : List Loc) (ls : Array Slot), 0 ≤ x91.toInt → x91.toInt ≤ 240 → 0 ≤ x92.toInt → x92.toInt ≤ 256 → 0 ≤ x93.toInt → x93.toInt ≤ 240 → (pg_L f5 v1.toInt 42 47 (pg_atom f5 v1.toInt 0) x93.toInt (pg_term f5 v1.toInt 0 v2.toInt)) → (x91.toInt ≤ x93.toInt) → (v2.toInt ≤ x93.toInt) → (240 - x91.toInt).toNat < n9 → va_P (dC, dI) vwCl (wd_1ad0248d h0 h1 h3 x92 h1 h2 v1 x93 v3 x94 h2 g0 f5 h3 g1 fn95) H → va_D A (wd_1ad0248d h0 h1 h3 x92 h1 h2 v1 x93 v3 x94 h2 g0 f5 h3 g1 fn95) → va_S A s.heap H locs → lv_has ls 4 [(2, .int x91), (0, .ref h0), (1, .int 6)] → W p l e ({ frames := 5, cells := 0, slots := 0, locals := 114 }) s m ([.ref h0, .int 6] : List Value).toArray below meth c H locs 0 0 Q (F0 m 12 ls []) := by
      intro n9
      induction n9 with
      | zero => intro x91 x92 x93 x94 fn95 H locs ls qa_x91 qb_x91 qa_x92 qb_x92 qa_x93 qb_x93 gh0_hL101 gh1_hL101 gh2_hL101 hm9 hP hD hS hl; exact absurd hm9 (Nat.not_lt_zero _)
      | succ n9 ih_hL101 =>
        intro x91 x92 x93 x94 fn95 H locs ls qa_x91 qb_x91 qa_x92 qb_x92 qa_x93 qb_x93 gh0_hL101 gh1_hL101 gh2_hL101 hm9 hP hD hS hl
        refine lv_iload_n hx hb dX3_readTerm_12 rfl (lv_at hl 0 rfl) ?_
        refine lv_sipush (v := 240) hx hb dX3_readTerm_13 (by decide) ?_
        refine lv_icmp_ge (tgt := 80) hx hb dX3_readTerm_16 (by decide) (fun c102 => ?_) (fun c102 => ?_)
        · skip
          have fc102 : 240 ≤ x91.toInt := Int32.le_iff_toInt_le.mp c102
          refine lv_iconst (v := 1) hx hb dX3_readTerm_80 (by decide) ?_
          subst hQ
          have hP9 := hP.sub (ws' := (wd_1ad0248d h0 h1 h3 x92 h1 h2 v1 x93 v3 x94 h2 g0 f5 h3 g1 fn95)) [0, 1, 2, 3] rfl
          have hD9 := hD.sub (ws' := (wd_1ad0248d h0 h1 h3 x92 h1 h2 v1 x93 v3 x94 h2 g0 f5 h3 g1 fn95)) [0, 1, 2, 3] (by decide) rfl
          have hK9 := hK.sub (tys' := []) [] rfl
          exact W.zret (v := 1) hx hb hr rfl (fun t ht hW => ⟨⟨1, 1, rfl, rfl, Or.inl ⟨x92, x93, x94, fn95, qa_x92, qb_x92, qa_x93, qb_x93, by first | omega | decide, by first | omega | decide, by omega, by first | assumption | (apply pg_L.stop <;> first | assumption | omega) | exact pg_L.stop (by assumption) (pg_s.here (by rw [pg_ch.off (by omega)]; decide)) (by rw [pg_ch.off (by omega)]; decide), by rw [ht]; exact hP9, va_K.moved hW.alike hK9, hD9⟩⟩, hS.F ht⟩) hS.2.2 dX3_readTerm_81
        · skip
          have fc102 : ¬ (240 ≤ x91.toInt) := fun h9 => c102 (Int32.le_iff_toInt_le.mpr h9)
          refine lv_aload_n hx hb dX3_readTerm_19 rfl (lv_at hl 1 rfl) ?_
          refine va_get (D := (dC, dI)) (ci := 3) (v := .ref h1) (C := RX3) (T := TX3) (N := 3) hx hb hts (fun _ h => List.mem_cons_of_mem _ (List.mem_append_left _ (List.mem_append_right _ h))) hown hK hP 0 rfl rfl 0 (by decide) (hts (.fieldLink RX3 19 "LeftArguments$LawReader" "tape" "LLeftArguments$Tape;") (List.mem_cons_of_mem _ (List.mem_append_left _ (List.mem_append_left _ (List.mem_of_getElem? (i := 1) rfl))))) (fun _ h9 => h9) rfl dX3_readTerm_20 ?_
          have hPc := hP.sub (ws' := (wd_82cdd16b h1 h2 v1 x93 v3 x94 h2 g0 f5)) [1, 2] rfl
          have hDc := hD.sub (ws' := (wd_82cdd16b h1 h2 v1 x93 v3 x94 h2 g0 f5)) [1, 2] (by decide) rfl
          have hKc := hK.sub (tys' := [(g0, .int)]) [0] rfl
          have hFc := va_free (wc := (wd_82cdd16b h1 h2 v1 x93 v3 x94 h2 g0 f5)) hD hS hA [1, 2] rfl
          refine va_calli (va_runV (As := []) (rest := []) ⟨hx, hb, hml, hown, hts⟩ (k_X10_next l dC dI h1 h2 v1 x93 v3 x94 g0 f5 ⟨i_v1a, i_v1b⟩ ⟨qa_x93, qb_x93⟩ ia_f5 H.size) (cwV 0 hts g_X3_readTerm_1 rfl rfl rfl (by decide +kernel) ⟨Nat.le_of_ble_eq_true rfl, Nat.le_of_ble_eq_true rfl⟩) (pv_PV10 hPc hKc hDc (q0 := 0) rfl) rfl rfl hl.1 rfl (lv_room (Nat.le_of_ble_eq_true rfl)) dX3_readTerm_23 ⟨Nat.le_of_ble_eq_true rfl, Nat.le_of_ble_eq_true rfl⟩) hS (fun q _ h => hFc q h) hFc (fun ra103 u t H1 locs ht hvm hwra103 hB hz1 hk1 hS => ?_)
          try rw [hwra103] at hB
          rcases hB with hB | hB
          · skip
            obtain ⟨x104, oa_x104, ob_x104, pt0_ra103, pt1_ra103, pt2_ra103, pt3_ra103, pt4_ra103, pt5_ra103, pt6_ra103, hP1, hK1, hD1⟩ := hB
            rw [ht] at hP1
            obtain ⟨hP2, hD2⟩ := va_join (wr := (wd_b958b9da h0 h1 h3 x92 h3 g1 fn95)) (w1 := (wd_82cdd16b h1 h2 v1 x104 v3 x94 h2 g0 f5)) hP hD [1, 2] [0, 3] rfl rfl (by decide) (by decide) hk1 hFc hP1 hD1
            clear hP hD hPc hDc hKc hFc hP1 hK1 hD1 hk1 hz1
            generalize H1 = H at hP2 hS ⊢
            have hP := hP2.sub (ws' := (wd_1ad0248d h0 h1 h3 x92 h1 h2 v1 x104 v3 x94 h2 g0 f5 h3 g1 fn95)) [0, 2, 3, 1] rfl
            have hD := hD2.sub (ws' := (wd_1ad0248d h0 h1 h3 x92 h1 h2 v1 x104 v3 x94 h2 g0 f5 h3 g1 fn95)) [0, 2, 3, 1] (by decide) rfl
            clear hP2 hD2
            obtain rfl : ra103 = ((-1) : Int32) := pv_cs (by decide) pt0_ra103 pt1_ra103
            refine lv_istore_n (lv' := [(3, .int (-1)), (2, .int x91), (0, .ref h0), (1, .int 6)]) hx hb dX3_readTerm_26 rfl hl (by decide) rfl (fun ls hl => ?_)
            refine lv_iload_n hx hb dX3_readTerm_27 rfl (lv_at hl 0 rfl) ?_
            refine lv_bipush (v := 42) hx hb dX3_readTerm_28 (by decide) ?_
            refine lv_icmp_eq (tgt := 41) hx hb dX3_readTerm_30 (by decide) (fun c => absurd c (by decide)) (fun _ => ?_)
            refine lv_iload_n hx hb dX3_readTerm_33 rfl (lv_at hl 0 rfl) ?_
            refine lv_bipush (v := 47) hx hb dX3_readTerm_34 (by decide) ?_
            refine lv_icmp_eq (tgt := 41) hx hb dX3_readTerm_36 (by decide) (fun c => absurd c (by decide)) (fun _ => ?_)
            refine lv_iconst (v := 1) hx hb dX3_readTerm_39 (by decide) ?_
            subst hQ
            have hP9 := hP.sub (ws' := (wd_1ad0248d h0 h1 h3 x92 h1 h2 v1 x104 v3 x94 h2 g0 f5 h3 g1 fn95)) [0, 1, 2, 3] rfl
            have hD9 := hD.sub (ws' := (wd_1ad0248d h0 h1 h3 x92 h1 h2 v1 x104 v3 x94 h2 g0 f5 h3 g1 fn95)) [0, 1, 2, 3] (by decide) rfl
            have hK9 := hK.sub (tys' := []) [] rfl
            exact W.zret (v := 1) hx hb hr rfl (fun t ht hW => ⟨⟨1, 1, rfl, rfl, Or.inl ⟨x92, x104, x94, fn95, qa_x92, qb_x92, oa_x104, ob_x104, by first | omega | decide, by first | omega | decide, by omega, by first | assumption | (apply pg_L.stop <;> first | assumption | omega) | exact pg_L.stop (by assumption) (pg_s.here (by rw [pg_ch.off (by omega)]; decide)) (by rw [pg_ch.off (by omega)]; decide), by rw [ht]; exact hP9, va_K.moved hW.alike hK9, hD9⟩⟩, hS.F ht⟩) hS.2.2 dX3_readTerm_40
          · skip
            obtain ⟨x105, oa_x105, ob_x105, pt0_ra103, pt1_ra103, pt2_ra103, pt3_ra103, pt4_ra103, pt5_ra103, pt6_ra103, hP1, hK1, hD1⟩ := hB
            rw [ht] at hP1
            obtain ⟨hP2, hD2⟩ := va_join (wr := (wd_b958b9da h0 h1 h3 x92 h3 g1 fn95)) (w1 := (wd_82cdd16b h1 h2 v1 x105 v3 x94 h2 g0 f5)) hP hD [1, 2] [0, 3] rfl rfl (by decide) (by decide) hk1 hFc hP1 hD1
            clear hP hD hPc hDc hKc hFc hP1 hK1 hD1 hk1 hz1
            generalize H1 = H at hP2 hS ⊢
            have hP := hP2.sub (ws' := (wd_1ad0248d h0 h1 h3 x92 h1 h2 v1 x105 v3 x94 h2 g0 f5 h3 g1 fn95)) [0, 2, 3, 1] rfl
            have hD := hD2.sub (ws' := (wd_1ad0248d h0 h1 h3 x92 h1 h2 v1 x105 v3 x94 h2 g0 f5 h3 g1 fn95)) [0, 2, 3, 1] (by decide) rfl
            clear hP2 hD2
            refine lv_istore_n (lv' := [(3, .int ra103), (2, .int x91), (0, .ref h0), (1, .int 6)]) hx hb dX3_readTerm_26 rfl hl (by decide) rfl (fun ls hl => ?_)
            refine lv_iload_n hx hb dX3_readTerm_27 rfl (lv_at hl 0 rfl) ?_
            refine lv_bipush (v := 42) hx hb dX3_readTerm_28 (by decide) ?_
            refine lv_icmp_eq (tgt := 41) hx hb dX3_readTerm_30 (by decide) (fun c106 => ?_) (fun c106 => ?_)
            · skip
              have fc106 : ra103.toInt = 42 := congrArg Int32.toInt c106
              refine lv_aload_n hx hb dX3_readTerm_41 rfl (lv_at hl 2 rfl) ?_
              refine va_get (D := (dC, dI)) (ci := 3) (v := .ref h1) (C := RX3) (T := TX3) (N := 3) hx hb hts (fun _ h => List.mem_cons_of_mem _ (List.mem_append_left _ (List.mem_append_right _ h))) hown hK hP 0 rfl rfl 0 (by decide) (hts (.fieldLink RX3 19 "LeftArguments$LawReader" "tape" "LLeftArguments$Tape;") (List.mem_cons_of_mem _ (List.mem_append_left _ (List.mem_append_left _ (List.mem_of_getElem? (i := 1) rfl))))) (fun _ h9 => h9) rfl dX3_readTerm_42 ?_
              have hPc := hP.sub (ws' := (wd_09b0abee h1 h2 v1 x105 v3 x94)) [1] rfl
              have hDc := hD.sub (ws' := (wd_09b0abee h1 h2 v1 x105 v3 x94)) [1] (by decide) rfl
              have hKc := hK.sub (tys' := []) [] rfl
              have hFc := va_free (wc := (wd_09b0abee h1 h2 v1 x105 v3 x94)) hD hS hA [1] rfl
              refine va_callv (va_runV (As := []) (rest := []) ⟨hx, hb, hml, hown, hts⟩ (k_X10_step l dC dI h1 h2 v1 x105 v3 x94 ⟨i_v1a, i_v1b⟩ ⟨oa_x105, ob_x105⟩ H.size) (cwV 0 hts g_X3_readTerm_2 rfl rfl rfl (by decide +kernel) ⟨Nat.le_of_ble_eq_true rfl, Nat.le_of_ble_eq_true rfl⟩) (pv_PV10 hPc hKc hDc (q0 := 0) rfl) rfl rfl hl.1 rfl (lv_room (Nat.le_of_ble_eq_true rfl)) dX3_readTerm_45 ⟨Nat.le_of_ble_eq_true rfl, Nat.le_of_ble_eq_true rfl⟩) hS (fun q _ h => hFc q h) hFc (fun u t H1 locs ht hvm hwra107 hB hz1 hk1 hS => ?_)
              obtain ⟨x108, oa_x108, ob_x108, pt0_ra107, hP1, hK1, hD1⟩ := hB
              rw [ht] at hP1
              obtain ⟨hP2, hD2⟩ := va_join (wr := (wd_6b0d8e05 h0 h1 h3 x92 h2 g0 f5 h3 g1 fn95)) (w1 := (wd_09b0abee h1 h2 v1 x108 v3 x94)) hP hD [1] [0, 2, 3] rfl rfl (by decide) (by decide) hk1 hFc hP1 hD1
              clear hP hD hPc hDc hKc hFc hP1 hK1 hD1 hk1 hz1
              generalize H1 = H at hP2 hS ⊢
              have hP := hP2.sub (ws' := (wd_1ad0248d h0 h1 h3 x92 h1 h2 v1 x108 v3 x94 h2 g0 f5 h3 g1 fn95)) [0, 3, 1, 2] rfl
              have hD := hD2.sub (ws' := (wd_1ad0248d h0 h1 h3 x92 h1 h2 v1 x108 v3 x94 h2 g0 f5 h3 g1 fn95)) [0, 3, 1, 2] (by decide) rfl
              clear hP2 hD2
              refine lv_aload_n hx hb dX3_readTerm_48 rfl (lv_at hl 2 rfl) ?_
              refine lv_iload_n hx hb dX3_readTerm_49 rfl (lv_at hl 3 rfl) ?_
              have hPc := hP.sub (ws' := (wd_1ad0248d h0 h1 h3 x92 h1 h2 v1 x108 v3 x94 h2 g0 f5 h3 g1 fn95)) [0, 1, 2, 3] rfl
              have hDc := hD.sub (ws' := (wd_1ad0248d h0 h1 h3 x92 h1 h2 v1 x108 v3 x94 h2 g0 f5 h3 g1 fn95)) [0, 1, 2, 3] (by decide) rfl
              have hKc := hK.sub (tys' := [(g0, .int), (g1, .int)]) [0, 1] rfl
              have hFc := va_free (wc := (wd_1ad0248d h0 h1 h3 x92 h1 h2 v1 x108 v3 x94 h2 g0 f5 h3 g1 fn95)) hD hS hA [0, 1, 2, 3] rfl
              refine va_calli (va_runV (As := [.int 6]) (rest := []) ⟨hx, hb, hml, hown, hts⟩ (k_X3_readAtom l dC dI adK adV h0 h1 h2 h3 x92 v1 x108 v3 x94 g0 f5 g1 fn95 ⟨qa_x92, qb_x92⟩ ⟨i_v1a, i_v1b⟩ ⟨by first | omega | decide, ob_x108⟩ ia_f5 H.size) (cwV 1 hts g_X3_readTerm_0 rfl rfl rfl (by decide +kernel) ⟨Nat.le_of_ble_eq_true rfl, Nat.le_of_ble_eq_true rfl⟩) ⟨fun a U g mk q => by obtain ⟨q0, q1, qP, qK, qD, n0, n1, n2⟩ := q; exact ⟨q0, q1, qP, va_K.moved (u := U) (U := U.calling g mk a) (Vm.Alike.refl U.vm) qK, qD, vk_R.same rfl n0, va_Z.moved (Vm.Alike.refl _) n1, vk_S.moved (Vm.Alike.refl _) n2⟩, pv_rc3 hKc hPc (q0 := 0) rfl, fun U hU hW => ⟨rfl, by rw [hU], by rw [hU]; exact hPc, va_K.moved hW.alike hKc, hDc.weaken (fun _ _ _ _ => trivial), vk_R.warm hW h_vr_2, (by rw [hU]; exact (va_Z.moved hW.alike (va_Z.kept h_st_CS hS.2.1)).narrow hFc), (by rw [hU]; exact (vk_S.moved hW.alike (vk_S.kept h_st_S hS.2.1)).narrow hFc)⟩⟩ rfl rfl hl.1 rfl (lv_room (Nat.le_of_ble_eq_true rfl)) dX3_readTerm_50 ⟨Nat.le_of_ble_eq_true rfl, Nat.le_of_ble_eq_true rfl⟩) hS (fun q _ h => hFc q h) hFc (fun ra109 u t H1 locs ht hvm hwra109 hB hz1 hk1 hS => ?_)
              try rw [hwra109] at hB
              rcases hB with hB | hB
              · skip
                obtain ⟨x110, x111, x112, fn113, oa_x110, ob_x110, oa_x111, ob_x111, pt0_ra109, pt1_ra109, pt2_ra109, pt3_ra109, hP1, hK1, hD1⟩ := hB
                rw [ht] at hP1
                obtain ⟨hP2, hD2⟩ := va_join (wr := []) (w1 := (wd_1ad0248d h0 h1 h3 x110 h1 h2 v1 x111 v3 x112 h2 g0 f5 h3 g1 fn113)) hP hD [0, 1, 2, 3] [] rfl rfl (by decide) (by decide) hk1 hFc hP1 hD1
                clear hP hD hPc hDc hKc hFc hP1 hK1 hD1 hk1 hz1
                generalize H1 = H at hP2 hS ⊢
                have hP : va_P (dC, dI) vwCl (wd_1ad0248d h0 h1 h3 x110 h1 h2 v1 x111 v3 x112 h2 g0 f5 h3 g1 fn113) H := hP2
                have hD : va_D A (wd_1ad0248d h0 h1 h3 x110 h1 h2 v1 x111 v3 x112 h2 g0 f5 h3 g1 fn113) := hD2
                clear hP2 hD2
                obtain rfl : ra109 = (1 : Int32) := pv_cs (by decide) pt0_ra109 pt1_ra109
                refine lv_if_ne (tgt := 58) hx hb dX3_readTerm_53 (by decide) (fun _ => ?_) (fun c => absurd c (by decide))
                refine lv_aload_n hx hb dX3_readTerm_58 rfl (lv_at hl 2 rfl) ?_
                refine lv_iload_n hx hb dX3_readTerm_59 rfl (lv_at hl 0 rfl) ?_
                refine lv_bipush (v := 42) hx hb dX3_readTerm_60 (by decide) ?_
                refine lv_icmp_ne (tgt := 69) hx hb dX3_readTerm_62 (by decide) (fun c114 => by exfalso; have fc114 : ¬ (ra103.toInt = 42) := fun h9 => c114 (Int32.toInt_inj.mp h9); omega) (fun _ => ?_)
                refine lv_iconst (v := 4) hx hb dX3_readTerm_65 (by decide) ?_
                refine lv_goto (tgt := 70) hx hb dX3_readTerm_66 (by decide) ?_
                refine lv_iconst (v := 0) hx hb dX3_readTerm_70 (by decide) ?_
                have hPc := hP.sub (ws' := (wd_b958b9da h0 h1 h3 x110 h3 g1 fn113)) [0, 3] rfl
                have hDc := hD.sub (ws' := (wd_b958b9da h0 h1 h3 x110 h3 g1 fn113)) [0, 3] (by decide) rfl
                have hKc := hK.sub (tys' := [(g1, .int)]) [1] rfl
                have hFc := va_free (wc := (wd_b958b9da h0 h1 h3 x110 h3 g1 fn113)) hD hS hA [0, 3] rfl
                refine va_callv (va_runV (As := [.int 4, .int 0]) (rest := []) ⟨hx, hb, hml, hown, hts⟩ (k_X3_write l dC dI h0 h3 h1 x110 g1 fn113 4 0 ⟨oa_x110, ob_x110⟩ H.size) (cwV 2 hts g_X3_readTerm_4 rfl rfl rfl (by decide +kernel) ⟨Nat.le_of_ble_eq_true rfl, Nat.le_of_ble_eq_true rfl⟩) (pv_PV3 hPc hKc hDc (q0 := 0) rfl) rfl rfl hl.1 rfl (lv_room (Nat.le_of_ble_eq_true rfl)) dX3_readTerm_71 ⟨Nat.le_of_ble_eq_true rfl, Nat.le_of_ble_eq_true rfl⟩) hS (fun q _ h => hFc q h) hFc (fun u t H1 locs ht hvm hwra115 hB hz1 hk1 hS => ?_)
                obtain ⟨x116, fn117, oa_x116, ob_x116, hP1, hK1, hD1⟩ := hB
                rw [ht] at hP1
                obtain ⟨hP2, hD2⟩ := va_join (wr := (wd_82cdd16b h1 h2 v1 x111 v3 x112 h2 g0 f5)) (w1 := (wd_b958b9da h0 h1 h3 x116 h3 g1 fn117)) hP hD [0, 3] [1, 2] rfl rfl (by decide) (by decide) hk1 hFc hP1 hD1
                clear hP hD hPc hDc hKc hFc hP1 hK1 hD1 hk1 hz1
                generalize H1 = H at hP2 hS ⊢
                have hP := hP2.sub (ws' := (wd_1ad0248d h0 h1 h3 x116 h1 h2 v1 x111 v3 x112 h2 g0 f5 h3 g1 fn117)) [2, 0, 1, 3] rfl
                have hD := hD2.sub (ws' := (wd_1ad0248d h0 h1 h3 x116 h1 h2 v1 x111 v3 x112 h2 g0 f5 h3 g1 fn117)) [2, 0, 1, 3] (by decide) rfl
                clear hP2 hD2
                obtain ⟨t118, et118⟩ : ∃ y : Int32, y = x91 + 1 := ⟨_, rfl⟩
                have gt118 : t118.toInt = x91.toInt + (1) := pv_add (a := x91.toInt) (b := (1)) et118 rfl (by decide) (by omega) (by omega)
                refine lv_iinc (v := t118) (lv' := [(2, .int t118), (3, .int ra103), (0, .ref h0), (1, .int 6)]) hx hb dX3_readTerm_74 hl (k := 1) rfl (by rw [et118]; rfl) (by decide) rfl (fun ls hl => ?_)
                refine lv_goto (tgt := 12) hx hb dX3_readTerm_77 (by decide) ?_
                exact ih_hL101 t118 x116 x111 x112 fn117 H locs ls (by first | omega | decide) (by first | omega | decide) oa_x116 ob_x116 oa_x111 ob_x111 (by first | assumption | (apply pg_row.go <;> first | assumption | omega) | (apply pg_L.bi <;> first | assumption | omega) | (apply pg_L.step <;> first | assumption | omega)) (by first | omega | ((have h09 : ((0 : Int32)).toInt = 0 := by decide); omega)) (by omega) (by first | omega | (simp only [Int.toNat] at *; omega)) hP hD hS (lv_sub hl [0, 2, 3] rfl)
              · skip
                obtain ⟨x119, x120, x121, oa_x119, ob_x119, oa_x120, ob_x120, pt0_ra109, pt1_ra109, pt2_ra109, pt3_ra109, hP1, hK1, hD1⟩ := hB
                rw [ht] at hP1
                obtain ⟨hP2, hD2⟩ := va_join (wr := []) (w1 := (wd_1ad0248d h0 h1 h3 x92 h1 h2 v1 x119 x120 x121 h2 g0 f5 h3 g1 fn95)) hP hD [0, 1, 2, 3] [] rfl rfl (by decide) (by decide) hk1 hFc hP1 hD1
                clear hP hD hPc hDc hKc hFc hP1 hK1 hD1 hk1 hz1
                generalize H1 = H at hP2 hS ⊢
                have hP : va_P (dC, dI) vwCl (wd_1ad0248d h0 h1 h3 x92 h1 h2 v1 x119 x120 x121 h2 g0 f5 h3 g1 fn95) H := hP2
                have hD : va_D A (wd_1ad0248d h0 h1 h3 x92 h1 h2 v1 x119 x120 x121 h2 g0 f5 h3 g1 fn95) := hD2
                clear hP2 hD2
                obtain rfl : ra109 = (0 : Int32) := pv_cs (by decide) pt0_ra109 pt1_ra109
                refine lv_if_ne (tgt := 58) hx hb dX3_readTerm_53 (by decide) (fun c => absurd (by decide) c) (fun _ => ?_)
                refine lv_iconst (v := 0) hx hb dX3_readTerm_56 (by decide) ?_
                subst hQ
                have hP9 := hP.sub (ws' := (wd_1ad0248d h0 h1 h3 x92 h1 h2 v1 x119 x120 x121 h2 g0 f5 h3 g1 fn95)) [0, 1, 2, 3] rfl
                have hD9 := hD.sub (ws' := (wd_1ad0248d h0 h1 h3 x92 h1 h2 v1 x119 x120 x121 h2 g0 f5 h3 g1 fn95)) [0, 1, 2, 3] (by decide) rfl
                have hK9 := hK.sub (tys' := []) [] rfl
                exact W.zret (v := 0) hx hb hr rfl (fun t ht hW => ⟨⟨0, 0, rfl, rfl, Or.inr (⟨x92, x119, x120, x121, fn95, qa_x92, qb_x92, oa_x119, ob_x119, oa_x120, ob_x120, by first | omega | decide, by first | omega | decide, by omega, by first | assumption | (apply pg_row.no <;> first | assumption | omega) | (apply pg_L.no <;> first | assumption | omega), by rw [ht]; exact hP9, va_K.moved hW.alike hK9, hD9⟩)⟩, hS.F ht⟩) hS.2.2 dX3_readTerm_57
            · skip
              have fc106 : ¬ (ra103.toInt = 42) := fun h9 => c106 (Int32.toInt_inj.mp h9)
              refine lv_iload_n hx hb dX3_readTerm_33 rfl (lv_at hl 0 rfl) ?_
              refine lv_bipush (v := 47) hx hb dX3_readTerm_34 (by decide) ?_
              refine lv_icmp_eq (tgt := 41) hx hb dX3_readTerm_36 (by decide) (fun c122 => ?_) (fun c122 => ?_)
              · skip
                have fc122 : ra103.toInt = 47 := congrArg Int32.toInt c122
                refine lv_aload_n hx hb dX3_readTerm_41 rfl (lv_at hl 2 rfl) ?_
                refine va_get (D := (dC, dI)) (ci := 3) (v := .ref h1) (C := RX3) (T := TX3) (N := 3) hx hb hts (fun _ h => List.mem_cons_of_mem _ (List.mem_append_left _ (List.mem_append_right _ h))) hown hK hP 0 rfl rfl 0 (by decide) (hts (.fieldLink RX3 19 "LeftArguments$LawReader" "tape" "LLeftArguments$Tape;") (List.mem_cons_of_mem _ (List.mem_append_left _ (List.mem_append_left _ (List.mem_of_getElem? (i := 1) rfl))))) (fun _ h9 => h9) rfl dX3_readTerm_42 ?_
                have hPc := hP.sub (ws' := (wd_09b0abee h1 h2 v1 x105 v3 x94)) [1] rfl
                have hDc := hD.sub (ws' := (wd_09b0abee h1 h2 v1 x105 v3 x94)) [1] (by decide) rfl
                have hKc := hK.sub (tys' := []) [] rfl
                have hFc := va_free (wc := (wd_09b0abee h1 h2 v1 x105 v3 x94)) hD hS hA [1] rfl
                refine va_callv (va_runV (As := []) (rest := []) ⟨hx, hb, hml, hown, hts⟩ (k_X10_step l dC dI h1 h2 v1 x105 v3 x94 ⟨i_v1a, i_v1b⟩ ⟨oa_x105, ob_x105⟩ H.size) (cwV 0 hts g_X3_readTerm_2 rfl rfl rfl (by decide +kernel) ⟨Nat.le_of_ble_eq_true rfl, Nat.le_of_ble_eq_true rfl⟩) (pv_PV10 hPc hKc hDc (q0 := 0) rfl) rfl rfl hl.1 rfl (lv_room (Nat.le_of_ble_eq_true rfl)) dX3_readTerm_45 ⟨Nat.le_of_ble_eq_true rfl, Nat.le_of_ble_eq_true rfl⟩) hS (fun q _ h => hFc q h) hFc (fun u t H1 locs ht hvm hwra123 hB hz1 hk1 hS => ?_)
                obtain ⟨x124, oa_x124, ob_x124, pt0_ra123, hP1, hK1, hD1⟩ := hB
                rw [ht] at hP1
                obtain ⟨hP2, hD2⟩ := va_join (wr := (wd_6b0d8e05 h0 h1 h3 x92 h2 g0 f5 h3 g1 fn95)) (w1 := (wd_09b0abee h1 h2 v1 x124 v3 x94)) hP hD [1] [0, 2, 3] rfl rfl (by decide) (by decide) hk1 hFc hP1 hD1
                clear hP hD hPc hDc hKc hFc hP1 hK1 hD1 hk1 hz1
                generalize H1 = H at hP2 hS ⊢
                have hP := hP2.sub (ws' := (wd_1ad0248d h0 h1 h3 x92 h1 h2 v1 x124 v3 x94 h2 g0 f5 h3 g1 fn95)) [0, 3, 1, 2] rfl
                have hD := hD2.sub (ws' := (wd_1ad0248d h0 h1 h3 x92 h1 h2 v1 x124 v3 x94 h2 g0 f5 h3 g1 fn95)) [0, 3, 1, 2] (by decide) rfl
                clear hP2 hD2
                refine lv_aload_n hx hb dX3_readTerm_48 rfl (lv_at hl 2 rfl) ?_
                refine lv_iload_n hx hb dX3_readTerm_49 rfl (lv_at hl 3 rfl) ?_
                have hPc := hP.sub (ws' := (wd_1ad0248d h0 h1 h3 x92 h1 h2 v1 x124 v3 x94 h2 g0 f5 h3 g1 fn95)) [0, 1, 2, 3] rfl
                have hDc := hD.sub (ws' := (wd_1ad0248d h0 h1 h3 x92 h1 h2 v1 x124 v3 x94 h2 g0 f5 h3 g1 fn95)) [0, 1, 2, 3] (by decide) rfl
                have hKc := hK.sub (tys' := [(g0, .int), (g1, .int)]) [0, 1] rfl
                have hFc := va_free (wc := (wd_1ad0248d h0 h1 h3 x92 h1 h2 v1 x124 v3 x94 h2 g0 f5 h3 g1 fn95)) hD hS hA [0, 1, 2, 3] rfl
                refine va_calli (va_runV (As := [.int 6]) (rest := []) ⟨hx, hb, hml, hown, hts⟩ (k_X3_readAtom l dC dI adK adV h0 h1 h2 h3 x92 v1 x124 v3 x94 g0 f5 g1 fn95 ⟨qa_x92, qb_x92⟩ ⟨i_v1a, i_v1b⟩ ⟨by first | omega | decide, ob_x124⟩ ia_f5 H.size) (cwV 1 hts g_X3_readTerm_0 rfl rfl rfl (by decide +kernel) ⟨Nat.le_of_ble_eq_true rfl, Nat.le_of_ble_eq_true rfl⟩) ⟨fun a U g mk q => by obtain ⟨q0, q1, qP, qK, qD, n0, n1, n2⟩ := q; exact ⟨q0, q1, qP, va_K.moved (u := U) (U := U.calling g mk a) (Vm.Alike.refl U.vm) qK, qD, vk_R.same rfl n0, va_Z.moved (Vm.Alike.refl _) n1, vk_S.moved (Vm.Alike.refl _) n2⟩, pv_rc3 hKc hPc (q0 := 0) rfl, fun U hU hW => ⟨rfl, by rw [hU], by rw [hU]; exact hPc, va_K.moved hW.alike hKc, hDc.weaken (fun _ _ _ _ => trivial), vk_R.warm hW h_vr_2, (by rw [hU]; exact (va_Z.moved hW.alike (va_Z.kept h_st_CS hS.2.1)).narrow hFc), (by rw [hU]; exact (vk_S.moved hW.alike (vk_S.kept h_st_S hS.2.1)).narrow hFc)⟩⟩ rfl rfl hl.1 rfl (lv_room (Nat.le_of_ble_eq_true rfl)) dX3_readTerm_50 ⟨Nat.le_of_ble_eq_true rfl, Nat.le_of_ble_eq_true rfl⟩) hS (fun q _ h => hFc q h) hFc (fun ra125 u t H1 locs ht hvm hwra125 hB hz1 hk1 hS => ?_)
                try rw [hwra125] at hB
                rcases hB with hB | hB
                · skip
                  obtain ⟨x126, x127, x128, fn129, oa_x126, ob_x126, oa_x127, ob_x127, pt0_ra125, pt1_ra125, pt2_ra125, pt3_ra125, hP1, hK1, hD1⟩ := hB
                  rw [ht] at hP1
                  obtain ⟨hP2, hD2⟩ := va_join (wr := []) (w1 := (wd_1ad0248d h0 h1 h3 x126 h1 h2 v1 x127 v3 x128 h2 g0 f5 h3 g1 fn129)) hP hD [0, 1, 2, 3] [] rfl rfl (by decide) (by decide) hk1 hFc hP1 hD1
                  clear hP hD hPc hDc hKc hFc hP1 hK1 hD1 hk1 hz1
                  generalize H1 = H at hP2 hS ⊢
                  have hP : va_P (dC, dI) vwCl (wd_1ad0248d h0 h1 h3 x126 h1 h2 v1 x127 v3 x128 h2 g0 f5 h3 g1 fn129) H := hP2
                  have hD : va_D A (wd_1ad0248d h0 h1 h3 x126 h1 h2 v1 x127 v3 x128 h2 g0 f5 h3 g1 fn129) := hD2
                  clear hP2 hD2
                  obtain rfl : ra125 = (1 : Int32) := pv_cs (by decide) pt0_ra125 pt1_ra125
                  refine lv_if_ne (tgt := 58) hx hb dX3_readTerm_53 (by decide) (fun _ => ?_) (fun c => absurd c (by decide))
                  refine lv_aload_n hx hb dX3_readTerm_58 rfl (lv_at hl 2 rfl) ?_
                  refine lv_iload_n hx hb dX3_readTerm_59 rfl (lv_at hl 0 rfl) ?_
                  refine lv_bipush (v := 42) hx hb dX3_readTerm_60 (by decide) ?_
                  refine lv_icmp_ne (tgt := 69) hx hb dX3_readTerm_62 (by decide) (fun _ => ?_) (fun c130 => by exfalso; have fc130 : ra103.toInt = 42 := congrArg Int32.toInt c130; omega)
                  refine lv_iconst (v := 5) hx hb dX3_readTerm_69 (by decide) ?_
                  refine lv_iconst (v := 0) hx hb dX3_readTerm_70 (by decide) ?_
                  have hPc := hP.sub (ws' := (wd_b958b9da h0 h1 h3 x126 h3 g1 fn129)) [0, 3] rfl
                  have hDc := hD.sub (ws' := (wd_b958b9da h0 h1 h3 x126 h3 g1 fn129)) [0, 3] (by decide) rfl
                  have hKc := hK.sub (tys' := [(g1, .int)]) [1] rfl
                  have hFc := va_free (wc := (wd_b958b9da h0 h1 h3 x126 h3 g1 fn129)) hD hS hA [0, 3] rfl
                  refine va_callv (va_runV (As := [.int 5, .int 0]) (rest := []) ⟨hx, hb, hml, hown, hts⟩ (k_X3_write l dC dI h0 h3 h1 x126 g1 fn129 5 0 ⟨oa_x126, ob_x126⟩ H.size) (cwV 2 hts g_X3_readTerm_4 rfl rfl rfl (by decide +kernel) ⟨Nat.le_of_ble_eq_true rfl, Nat.le_of_ble_eq_true rfl⟩) (pv_PV3 hPc hKc hDc (q0 := 0) rfl) rfl rfl hl.1 rfl (lv_room (Nat.le_of_ble_eq_true rfl)) dX3_readTerm_71 ⟨Nat.le_of_ble_eq_true rfl, Nat.le_of_ble_eq_true rfl⟩) hS (fun q _ h => hFc q h) hFc (fun u t H1 locs ht hvm hwra131 hB hz1 hk1 hS => ?_)
                  obtain ⟨x132, fn133, oa_x132, ob_x132, hP1, hK1, hD1⟩ := hB
                  rw [ht] at hP1
                  obtain ⟨hP2, hD2⟩ := va_join (wr := (wd_82cdd16b h1 h2 v1 x127 v3 x128 h2 g0 f5)) (w1 := (wd_b958b9da h0 h1 h3 x132 h3 g1 fn133)) hP hD [0, 3] [1, 2] rfl rfl (by decide) (by decide) hk1 hFc hP1 hD1
                  clear hP hD hPc hDc hKc hFc hP1 hK1 hD1 hk1 hz1
                  generalize H1 = H at hP2 hS ⊢
                  have hP := hP2.sub (ws' := (wd_1ad0248d h0 h1 h3 x132 h1 h2 v1 x127 v3 x128 h2 g0 f5 h3 g1 fn133)) [2, 0, 1, 3] rfl
                  have hD := hD2.sub (ws' := (wd_1ad0248d h0 h1 h3 x132 h1 h2 v1 x127 v3 x128 h2 g0 f5 h3 g1 fn133)) [2, 0, 1, 3] (by decide) rfl
                  clear hP2 hD2
                  obtain ⟨t134, et134⟩ : ∃ y : Int32, y = x91 + 1 := ⟨_, rfl⟩
                  have gt134 : t134.toInt = x91.toInt + (1) := pv_add (a := x91.toInt) (b := (1)) et134 rfl (by decide) (by omega) (by omega)
                  refine lv_iinc (v := t134) (lv' := [(2, .int t134), (3, .int ra103), (0, .ref h0), (1, .int 6)]) hx hb dX3_readTerm_74 hl (k := 1) rfl (by rw [et134]; rfl) (by decide) rfl (fun ls hl => ?_)
                  refine lv_goto (tgt := 12) hx hb dX3_readTerm_77 (by decide) ?_
                  exact ih_hL101 t134 x132 x127 x128 fn133 H locs ls (by first | omega | decide) (by first | omega | decide) oa_x132 ob_x132 oa_x127 ob_x127 (by first | assumption | (apply pg_row.go <;> first | assumption | omega) | (apply pg_L.bi <;> first | assumption | omega) | (apply pg_L.step <;> first | assumption | omega)) (by first | omega | ((have h09 : ((0 : Int32)).toInt = 0 := by decide); omega)) (by omega) (by first | omega | (simp only [Int.toNat] at *; omega)) hP hD hS (lv_sub hl [0, 2, 3] rfl)
                · skip
                  obtain ⟨x135, x136, x137, oa_x135, ob_x135, oa_x136, ob_x136, pt0_ra125, pt1_ra125, pt2_ra125, pt3_ra125, hP1, hK1, hD1⟩ := hB
                  rw [ht] at hP1
                  obtain ⟨hP2, hD2⟩ := va_join (wr := []) (w1 := (wd_1ad0248d h0 h1 h3 x92 h1 h2 v1 x135 x136 x137 h2 g0 f5 h3 g1 fn95)) hP hD [0, 1, 2, 3] [] rfl rfl (by decide) (by decide) hk1 hFc hP1 hD1
                  clear hP hD hPc hDc hKc hFc hP1 hK1 hD1 hk1 hz1
                  generalize H1 = H at hP2 hS ⊢
                  have hP : va_P (dC, dI) vwCl (wd_1ad0248d h0 h1 h3 x92 h1 h2 v1 x135 x136 x137 h2 g0 f5 h3 g1 fn95) H := hP2
                  have hD : va_D A (wd_1ad0248d h0 h1 h3 x92 h1 h2 v1 x135 x136 x137 h2 g0 f5 h3 g1 fn95) := hD2
                  clear hP2 hD2
                  obtain rfl : ra125 = (0 : Int32) := pv_cs (by decide) pt0_ra125 pt1_ra125
                  refine lv_if_ne (tgt := 58) hx hb dX3_readTerm_53 (by decide) (fun c => absurd (by decide) c) (fun _ => ?_)
                  refine lv_iconst (v := 0) hx hb dX3_readTerm_56 (by decide) ?_
                  subst hQ
                  have hP9 := hP.sub (ws' := (wd_1ad0248d h0 h1 h3 x92 h1 h2 v1 x135 x136 x137 h2 g0 f5 h3 g1 fn95)) [0, 1, 2, 3] rfl
                  have hD9 := hD.sub (ws' := (wd_1ad0248d h0 h1 h3 x92 h1 h2 v1 x135 x136 x137 h2 g0 f5 h3 g1 fn95)) [0, 1, 2, 3] (by decide) rfl
                  have hK9 := hK.sub (tys' := []) [] rfl
                  exact W.zret (v := 0) hx hb hr rfl (fun t ht hW => ⟨⟨0, 0, rfl, rfl, Or.inr (⟨x92, x135, x136, x137, fn95, qa_x92, qb_x92, oa_x135, ob_x135, oa_x136, ob_x136, by first | omega | decide, by first | omega | decide, by omega, by first | assumption | (apply pg_row.no <;> first | assumption | omega) | (apply pg_L.no <;> first | assumption | omega), by rw [ht]; exact hP9, va_K.moved hW.alike hK9, hD9⟩)⟩, hS.F ht⟩) hS.2.2 dX3_readTerm_57
              · skip
                have fc122 : ¬ (ra103.toInt = 47) := fun h9 => c122 (Int32.toInt_inj.mp h9)
                refine lv_iconst (v := 1) hx hb dX3_readTerm_39 (by decide) ?_
                subst hQ
                have hP9 := hP.sub (ws' := (wd_1ad0248d h0 h1 h3 x92 h1 h2 v1 x105 v3 x94 h2 g0 f5 h3 g1 fn95)) [0, 1, 2, 3] rfl
                have hD9 := hD.sub (ws' := (wd_1ad0248d h0 h1 h3 x92 h1 h2 v1 x105 v3 x94 h2 g0 f5 h3 g1 fn95)) [0, 1, 2, 3] (by decide) rfl
                have hK9 := hK.sub (tys' := []) [] rfl
                exact W.zret (v := 1) hx hb hr rfl (fun t ht hW => ⟨⟨1, 1, rfl, rfl, Or.inl ⟨x92, x105, x94, fn95, qa_x92, qb_x92, oa_x105, by first | omega | decide, by first | omega | decide, by first | omega | decide, by omega, by first | assumption | (apply pg_L.stop <;> first | assumption | omega) | exact pg_L.stop (by assumption) (pg_s.here (by rw [pg_ch.off (by omega)]; decide)) (by rw [pg_ch.off (by omega)]; decide), by rw [ht]; exact hP9, va_K.moved hW.alike hK9, hD9⟩⟩, hS.F ht⟩) hS.2.2 dX3_readTerm_40
    exact hL101 _ 0 x2 x3 x4 fn5 H locs ls (by decide) (by decide) oa_x2 ob_x2 oa_x3 ob_x3 (by first | assumption | (apply pg_row.go <;> first | assumption | omega) | (apply pg_L.bi <;> first | assumption | omega) | (apply pg_L.step <;> first | assumption | omega)) (by first | omega | ((have h09 : ((0 : Int32)).toInt = 0 := by decide); omega)) (by omega) (Nat.lt_succ_self _) hP hD hS (lv_sub hl [0, 1, 2] rfl)
  · skip
    obtain ⟨x138, x139, x140, oa_x138, ob_x138, oa_x139, ob_x139, pt0_ra1, pt1_ra1, pt2_ra1, pt3_ra1, hP1, hK1, hD1⟩ := hB
    rw [ht] at hP1
    obtain ⟨hP2, hD2⟩ := va_join (wr := []) (w1 := (wd_1ad0248d h0 h1 h3 v0 h1 h2 v1 x138 x139 x140 h2 g0 f5 h3 g1 f6)) hP hD [0, 1, 2, 3] [] rfl rfl (by decide) (by decide) hk1 hFc hP1 hD1
    clear hP hD hPc hDc hKc hFc hP1 hK1 hD1 hk1 hz1
    generalize H1 = H at hP2 hS ⊢
    have hP : va_P (dC, dI) vwCl (wd_1ad0248d h0 h1 h3 v0 h1 h2 v1 x138 x139 x140 h2 g0 f5 h3 g1 f6) H := hP2
    have hD : va_D A (wd_1ad0248d h0 h1 h3 v0 h1 h2 v1 x138 x139 x140 h2 g0 f5 h3 g1 f6) := hD2
    clear hP2 hD2
    obtain rfl : ra1 = (0 : Int32) := pv_cs (by decide) pt0_ra1 pt1_ra1
    refine lv_if_ne (tgt := 10) hx hb dX3_readTerm_5 (by decide) (fun c => absurd (by decide) c) (fun _ => ?_)
    refine lv_iconst (v := 0) hx hb dX3_readTerm_8 (by decide) ?_
    subst hQ
    have hP9 := hP.sub (ws' := (wd_1ad0248d h0 h1 h3 v0 h1 h2 v1 x138 x139 x140 h2 g0 f5 h3 g1 f6)) [0, 1, 2, 3] rfl
    have hD9 := hD.sub (ws' := (wd_1ad0248d h0 h1 h3 v0 h1 h2 v1 x138 x139 x140 h2 g0 f5 h3 g1 f6)) [0, 1, 2, 3] (by decide) rfl
    have hK9 := hK.sub (tys' := []) [] rfl
    exact W.zret (v := 0) hx hb hr rfl (fun t ht hW => ⟨⟨0, 0, rfl, rfl, Or.inr (⟨v0, x138, x139, x140, f6, i_v0a, i_v0b, oa_x138, ob_x138, oa_x139, ob_x139, by first | omega | decide, by first | omega | decide, by omega, by first | assumption | (apply pg_row.no <;> first | assumption | omega) | (apply pg_L.no <;> first | assumption | omega), by rw [ht]; exact hP9, va_K.moved hW.alike hK9, hD9⟩)⟩, hS.F ht⟩) hS.2.2 dX3_readTerm_9
def q_X3_readSum : List Cond := .code yX3_readSum cX3_readSum 4 (some .boolean) :: (([.code yX3_readTerm cX3_readTerm 4 (some .boolean), .code yX3_readAtom cX3_readAtom 4 (some .boolean), .fieldLink RX3 19 "LeftArguments$LawReader" "tape" "LLeftArguments$Tape;", .code yX10_next cX10_next 1 (some .int), .fieldLink RX10 19 "LeftArguments$Tape" "at" "I", .fieldLink RX10 15 "LeftArguments$Tape" "used" "I", .fieldLink RX10 9 "LeftArguments$Tape" "bytes" "[I", .initialized RX10, .instanceMethod yX10_next, .selects RX10 yX10_next yX10_next, .methodLink RX3 48 yX10_next, .code yX10_isDigit cX10_isDigit 1 (some .boolean), .static yX10_isDigit, .methodLink RX3 92 yX10_isDigit, .code yX10_wrongHere cX10_wrongHere 1 (some .boolean), .fieldLink RX10 22 "LeftArguments$Tape" "wrongAt" "I", .instanceMethod yX10_wrongHere, .selects RX10 yX10_wrongHere yX10_wrongHere, .methodLink RX3 83 yX10_wrongHere, .code yJ0_indexOf_0f7a4 cJ0_indexOf_0f7a4 2 (some .int), .code yJ0_indexOf_7cf53 cJ0_indexOf_7cf53 3 (some .int), .code yJ0_isLatin1_aae02 cJ0_isLatin1_aae02 1 (some .boolean), .fieldLink RJ0 38 "java/lang/String" "COMPACT_STRINGS" "Z", .fieldLink RJ0 15 "java/lang/String" "coder" "B", .initialized RJ0, .instanceMethod yJ0_isLatin1_aae02, .selects RJ0 yJ0_isLatin1_aae02 yJ0_isLatin1_aae02, .methodLink RJ0 492 yJ0_isLatin1_aae02, .fieldLink RJ0 9 "java/lang/String" "value" "[B", .code yJ0_length_8abf5 cJ0_length_8abf5 1 (some .int), .code yJ0_coder_7d493 cJ0_coder_7d493 1 (some .byte), .instanceMethod yJ0_coder_7d493, .selects RJ0 yJ0_coder_7d493 yJ0_coder_7d493, .methodLink RJ0 335 yJ0_coder_7d493, .instanceMethod yJ0_length_8abf5, .selects RJ0 yJ0_length_8abf5 yJ0_length_8abf5, .methodLink RJ0 505 yJ0_length_8abf5, .code yJ1_indexOf_4cfef cJ1_indexOf_4cfef 4 (some .int), .code yJ1_canEncode_9a6ad cJ1_canEncode_9a6ad 1 (some .boolean), .initialized RJ1, .static yJ1_canEncode_9a6ad, .methodLink RJ1 88 yJ1_canEncode_9a6ad, .methodLink RJ1 92 Lib.Math.max.name, .static Lib.Math.max.name, .initialized "java/lang/Math", .code Lib.Math.max.name Lib.Math.max.code 2 (some .int), .methodLink RJ1 38 Lib.Math.min.name, .static Lib.Math.min.name, .code Lib.Math.min.name Lib.Math.min.code 2 (some .int), .code yJ1_indexOfChar_4cfef cJ1_indexOfChar_4cfef 6 (some .int), .static yJ1_indexOfChar_4cfef, .methodLink RJ1 95 yJ1_indexOfChar_4cfef, .static yJ1_indexOf_4cfef, .methodLink RJ0 637 yJ1_indexOf_4cfef, .instanceMethod yJ0_indexOf_7cf53, .selects RJ0 yJ0_indexOf_7cf53 yJ0_indexOf_7cf53, .methodLink RJ0 633 yJ0_indexOf_7cf53, .instanceMethod yJ0_indexOf_0f7a4, .selects RJ0 yJ0_indexOf_0f7a4 yJ0_indexOf_0f7a4, .methodLink RX3 103 yJ0_indexOf_0f7a4, .code yX10_step cX10_step 1 none, .instanceMethod yX10_step, .selects RX10 yX10_step yX10_step, .methodLink RX3 77 yX10_step, .code yX3_write cX3_write 3 none, .fieldLink RX3 15 "LeftArguments$LawReader" "used" "I", .fieldLink RX3 11 "LeftArguments$LawReader" "code" "[I", .initialized RX3, .instanceMethod yX3_write, .selects RX3 yX3_write yX3_write, .methodLink RX3 66 yX3_write, .code yX10_takeNumber cX10_takeNumber 3 (some .boolean), .methodLink RX10 37 yX10_next, .methodLink RX10 45 yX10_isDigit, .methodLink RX10 41 yX10_wrongHere, .fieldLink RX10 25 "LeftArguments$Tape" "number" "I", .code yX10_sign cX10_sign 1 (some .int), .instanceMethod yX10_sign, .selects RX10 yX10_sign yX10_sign, .methodLink RX10 49 yX10_sign, .instanceMethod yX10_takeNumber, .selects RX10 yX10_takeNumber yX10_takeNumber, .methodLink RX3 95 yX10_takeNumber, .code yX10_number cX10_number 1 (some .int), .instanceMethod yX10_number, .selects RX10 yX10_number yX10_number, .methodLink RX3 98 yX10_number, .instanceMethod yX3_readAtom, .selects RX3 yX3_readAtom yX3_readAtom, .methodLink RX3 89 yX3_readAtom, .instanceMethod yX3_readTerm, .selects RX3 yX3_readTerm yX3_readTerm, .methodLink RX3 86 yX3_readTerm] : List Cond) ++ wsX30 ++ wsX100)
set_option maxRecDepth 20000 in
theorem g_X3_readSum_0 : GoodIn q_X3_readSum (wsV RX3 86 RX3 yX3_readTerm q_X3_readTerm) := goodIn_app (goodIn_r _ [93, 91, 92, 68] rfl (by decide +kernel)) (goodIn_ca (goodIn_ca (goodIn_r (.code yX3_readTerm cX3_readTerm 4 (some .boolean) :: [.code yX3_readAtom cX3_readAtom 4 (some .boolean), .fieldLink RX3 19 "LeftArguments$LawReader" "tape" "LLeftArguments$Tape;", .code yX10_next cX10_next 1 (some .int), .fieldLink RX10 19 "LeftArguments$Tape" "at" "I", .fieldLink RX10 15 "LeftArguments$Tape" "used" "I", .fieldLink RX10 9 "LeftArguments$Tape" "bytes" "[I", .initialized RX10, .instanceMethod yX10_next, .selects RX10 yX10_next yX10_next, .methodLink RX3 48 yX10_next, .code yX10_isDigit cX10_isDigit 1 (some .boolean), .static yX10_isDigit, .methodLink RX3 92 yX10_isDigit, .code yX10_wrongHere cX10_wrongHere 1 (some .boolean), .fieldLink RX10 22 "LeftArguments$Tape" "wrongAt" "I", .instanceMethod yX10_wrongHere, .selects RX10 yX10_wrongHere yX10_wrongHere, .methodLink RX3 83 yX10_wrongHere, .code yJ0_indexOf_0f7a4 cJ0_indexOf_0f7a4 2 (some .int), .code yJ0_indexOf_7cf53 cJ0_indexOf_7cf53 3 (some .int), .code yJ0_isLatin1_aae02 cJ0_isLatin1_aae02 1 (some .boolean), .fieldLink RJ0 38 "java/lang/String" "COMPACT_STRINGS" "Z", .fieldLink RJ0 15 "java/lang/String" "coder" "B", .initialized RJ0, .instanceMethod yJ0_isLatin1_aae02, .selects RJ0 yJ0_isLatin1_aae02 yJ0_isLatin1_aae02, .methodLink RJ0 492 yJ0_isLatin1_aae02, .fieldLink RJ0 9 "java/lang/String" "value" "[B", .code yJ0_length_8abf5 cJ0_length_8abf5 1 (some .int), .code yJ0_coder_7d493 cJ0_coder_7d493 1 (some .byte), .instanceMethod yJ0_coder_7d493, .selects RJ0 yJ0_coder_7d493 yJ0_coder_7d493, .methodLink RJ0 335 yJ0_coder_7d493, .instanceMethod yJ0_length_8abf5, .selects RJ0 yJ0_length_8abf5 yJ0_length_8abf5, .methodLink RJ0 505 yJ0_length_8abf5, .code yJ1_indexOf_4cfef cJ1_indexOf_4cfef 4 (some .int), .code yJ1_canEncode_9a6ad cJ1_canEncode_9a6ad 1 (some .boolean), .initialized RJ1, .static yJ1_canEncode_9a6ad, .methodLink RJ1 88 yJ1_canEncode_9a6ad, .methodLink RJ1 92 Lib.Math.max.name, .static Lib.Math.max.name, .initialized "java/lang/Math", .code Lib.Math.max.name Lib.Math.max.code 2 (some .int), .methodLink RJ1 38 Lib.Math.min.name, .static Lib.Math.min.name, .code Lib.Math.min.name Lib.Math.min.code 2 (some .int), .code yJ1_indexOfChar_4cfef cJ1_indexOfChar_4cfef 6 (some .int), .static yJ1_indexOfChar_4cfef, .methodLink RJ1 95 yJ1_indexOfChar_4cfef, .static yJ1_indexOf_4cfef, .methodLink RJ0 637 yJ1_indexOf_4cfef, .instanceMethod yJ0_indexOf_7cf53, .selects RJ0 yJ0_indexOf_7cf53 yJ0_indexOf_7cf53, .methodLink RJ0 633 yJ0_indexOf_7cf53, .instanceMethod yJ0_indexOf_0f7a4, .selects RJ0 yJ0_indexOf_0f7a4 yJ0_indexOf_0f7a4, .methodLink RX3 103 yJ0_indexOf_0f7a4, .code yX10_step cX10_step 1 none, .instanceMethod yX10_step, .selects RX10 yX10_step yX10_step, .methodLink RX3 77 yX10_step, .code yX3_write cX3_write 3 none, .fieldLink RX3 15 "LeftArguments$LawReader" "used" "I", .fieldLink RX3 11 "LeftArguments$LawReader" "code" "[I", .initialized RX3, .instanceMethod yX3_write, .selects RX3 yX3_write yX3_write, .methodLink RX3 66 yX3_write, .code yX10_takeNumber cX10_takeNumber 3 (some .boolean), .methodLink RX10 37 yX10_next, .methodLink RX10 45 yX10_isDigit, .methodLink RX10 41 yX10_wrongHere, .fieldLink RX10 25 "LeftArguments$Tape" "number" "I", .code yX10_sign cX10_sign 1 (some .int), .instanceMethod yX10_sign, .selects RX10 yX10_sign yX10_sign, .methodLink RX10 49 yX10_sign, .instanceMethod yX10_takeNumber, .selects RX10 yX10_takeNumber yX10_takeNumber, .methodLink RX3 95 yX10_takeNumber, .code yX10_number cX10_number 1 (some .int), .instanceMethod yX10_number, .selects RX10 yX10_number yX10_number, .methodLink RX3 98 yX10_number, .instanceMethod yX3_readAtom, .selects RX3 yX3_readAtom yX3_readAtom, .methodLink RX3 89 yX3_readAtom]) [1, 2, 3, 4, 5, 6, 7, 8, 9, 10, 11, 12, 13, 14, 15, 16, 17, 18, 19, 20, 21, 22, 23, 24, 25, 26, 27, 28, 29, 30, 31, 32, 33, 34, 35, 36, 37, 38, 39, 40, 41, 42, 43, 44, 45, 46, 47, 48, 49, 50, 51, 52, 53, 54, 55, 56, 57, 58, 59, 60, 61, 62, 63, 64, 65, 66, 67, 68, 69, 70, 71, 72, 73, 74, 75, 76, 77, 78, 79, 80, 81, 82, 83, 84, 85, 86, 87, 88, 89, 90] rfl (by decide +kernel)) (goodIn_sub (fun _ h => List.mem_cons_of_mem _ (List.mem_append_left _ (List.mem_append_right _ h))) gwX3)) (goodIn_sub (fun _ h => List.mem_cons_of_mem _ (List.mem_append_right _ h)) gwX10))
set_option maxRecDepth 20000 in
theorem g_X3_readSum_1 : GoodIn q_X3_readSum (wsV RX3 48 RX10 yX10_next q_X10_next) := goodIn_app (goodIn_r _ [11, 9, 10, 8] rfl (by decide +kernel)) (goodIn_ca (goodIn_r (.code yX10_next cX10_next 1 (some .int) :: [.fieldLink RX10 19 "LeftArguments$Tape" "at" "I", .fieldLink RX10 15 "LeftArguments$Tape" "used" "I", .fieldLink RX10 9 "LeftArguments$Tape" "bytes" "[I"]) [4, 5, 6, 7] rfl (by decide +kernel)) (goodIn_sub (fun _ h => List.mem_cons_of_mem _ (List.mem_append_right _ h)) gwX10))
set_option maxRecDepth 20000 in
theorem g_X3_readSum_2 : GoodIn q_X3_readSum (wsV RX3 77 RX10 yX10_step q_X10_step) := goodIn_app (goodIn_r _ [64, 62, 63, 8] rfl (by decide +kernel)) (goodIn_ca (goodIn_r (.code yX10_step cX10_step 1 none :: [.fieldLink RX10 19 "LeftArguments$Tape" "at" "I"]) [61, 5] rfl (by decide +kernel)) (goodIn_sub (fun _ h => List.mem_cons_of_mem _ (List.mem_append_right _ h)) gwX10))
set_option maxRecDepth 20000 in
theorem g_X3_readSum_4 : GoodIn q_X3_readSum (wsV RX3 66 RX3 yX3_write q_X3_write) := goodIn_app (goodIn_r _ [71, 69, 70, 68] rfl (by decide +kernel)) (goodIn_ca (goodIn_r (.code yX3_write cX3_write 3 none :: [.fieldLink RX3 15 "LeftArguments$LawReader" "used" "I", .fieldLink RX3 11 "LeftArguments$LawReader" "code" "[I"]) [65, 66, 67] rfl (by decide +kernel)) (goodIn_sub (fun _ h => List.mem_cons_of_mem _ (List.mem_append_left _ (List.mem_append_right _ h))) gwX3))
set_option maxHeartbeats 4000000 in
set_option maxRecDepth 100000 in
theorem k_X3_readSum (l : Launch) (dC : Nat → ClassId) (dI : Nat → Nat → Nat) (adK : Nat → Nat) (adV : Nat → Nat) (h0 : Nat) (h1 : Nat) (h2 : Nat) (h3 : Nat) (v0 : Int32) (v1 : Int32) (v2 : Int32) (v3 : Int32) (v4 : Int32) (g0 : ClassId) (f5 : Nat → Int32) (g1 : ClassId) (f6 : Nat → Int32) (i_v0 : 0 ≤ v0.toInt ∧ v0.toInt ≤ 256) (i_v1 : 0 ≤ v1.toInt ∧ v1.toInt ≤ 240) (i_v2 : 0 ≤ v2.toInt ∧ v2.toInt ≤ 240) (ia_f5 : (∀ j, 0 ≤ (f5 j).toInt ∧ (f5 j).toInt ≤ 255)) (sz : Nat) : Met l yX3_readSum q_X3_readSum ({ frames := 6, cells := 0, slots := 0, locals := 137 }) (va_Pc [.ref h0, .int 6] (fun U => U.heap.size = sz ∧ va_P (dC, dI) vwCl (wd_1ad0248d h0 h1 h3 v0 h1 h2 v1 v2 v3 v4 h2 g0 f5 h3 g1 f6) U.heap ∧ va_K (dC, dI) vwCl [(g0, .int), (g1, .int)] U ∧ va_D (fun _ => True) (wd_1ad0248d h0 h1 h3 v0 h1 h2 v1 v2 v3 v4 h2 g0 f5 h3 g1 f6) ∧ vk_R RX3 101 "zaondt" (adK 2) U ∧ va_Z "java/lang/String" "COMPACT_STRINGS" "Z" (.int 1) (va_A (wd_1ad0248d h0 h1 h3 v0 h1 h2 v1 v2 v3 v4 h2 g0 f5 h3 g1 f6) sz) U U.heap ∧ vk_S 3 pv_len3 pv_byt3 adK adV (va_A (wd_1ad0248d h0 h1 h3 v0 h1 h2 v1 v2 v3 v4 h2 g0 f5 h3 g1 f6) sz) U U.heap)) (va_Qi (fun (r : Int32) (r9 : Int32) => r9 = r) (fun (r : Int32) (t : State) => (∃ (o_h0_2 : Int32) (o_h1_2 : Int32) (o_h1_4 : Int32) (o_h3 : Nat → Int32), 0 ≤ o_h0_2.toInt ∧ o_h0_2.toInt ≤ 256 ∧ 0 ≤ o_h1_2.toInt ∧ o_h1_2.toInt ≤ 240 ∧ (1 ≤ r.toInt) ∧ (r.toInt ≤ 1) ∧ (v2.toInt ≤ o_h1_2.toInt) ∧ (pg_sum f5 v1.toInt 0 v2.toInt = (true, o_h1_2.toInt)) ∧ va_P (dC, dI) vwCl (wd_1ad0248d h0 h1 h3 o_h0_2 h1 h2 v1 o_h1_2 v3 o_h1_4 h2 g0 f5 h3 g1 o_h3) t.heap ∧ va_K (dC, dI) vwCl [] t ∧ va_D (va_A (wd_1ad0248d h0 h1 h3 v0 h1 h2 v1 v2 v3 v4 h2 g0 f5 h3 g1 f6) sz) (wd_1ad0248d h0 h1 h3 o_h0_2 h1 h2 v1 o_h1_2 v3 o_h1_4 h2 g0 f5 h3 g1 o_h3)) ∨ (∃ (o_h0_2 : Int32) (o_h1_2 : Int32) (o_h1_3 : Int32) (o_h1_4 : Int32) (o_h3 : Nat → Int32), 0 ≤ o_h0_2.toInt ∧ o_h0_2.toInt ≤ 256 ∧ 0 ≤ o_h1_2.toInt ∧ o_h1_2.toInt ≤ 240 ∧ 0 ≤ o_h1_3.toInt ∧ o_h1_3.toInt ≤ 240 ∧ (0 ≤ r.toInt) ∧ (r.toInt ≤ 0) ∧ (v2.toInt ≤ o_h1_2.toInt) ∧ (pg_sum f5 v1.toInt 0 v2.toInt = (false, o_h1_3.toInt)) ∧ va_P (dC, dI) vwCl (wd_1ad0248d h0 h1 h3 o_h0_2 h1 h2 v1 o_h1_2 o_h1_3 o_h1_4 h2 g0 f5 h3 g1 o_h3) t.heap ∧ va_K (dC, dI) vwCl [] t ∧ va_D (va_A (wd_1ad0248d h0 h1 h3 v0 h1 h2 v1 v2 v3 v4 h2 g0 f5 h3 g1 f6) sz) (wd_1ad0248d h0 h1 h3 o_h0_2 h1 h2 v1 o_h1_2 o_h1_3 o_h1_4 h2 g0 f5 h3 g1 o_h3))) (va_A (wd_1ad0248d h0 h1 h3 v0 h1 h2 v1 v2 v3 v4 h2 g0 f5 h3 g1 f6) sz)) 0 0 (va_A (wd_1ad0248d h0 h1 h3 v0 h1 h2 v1 v2 v3 v4 h2 g0 f5 h3 g1 f6) sz) := by
  refine Met.ofW (cc := cX3_readSum) (maxL := 4) (ret := (some .boolean)) (by decide) rfl ?_
  intro p e s m args below meth c s₁ B hml hv
  obtain ⟨i_v0a, i_v0b⟩ := i_v0
  obtain ⟨i_v1a, i_v1b⟩ := i_v1
  obtain ⟨i_v2a, i_v2b⟩ := i_v2
  obtain ⟨rfl, hsz, hP, hK, hD0, h_vr_2, h_st_CS, h_st_S⟩ := hv
  have hx := B.exec
  have hb := B.bytes
  have hr := B.returns
  have hts := atoms_spec (ws := q_X3_readSum) B.pre
  have hown : s.vm.findClass RX3 = some m.cls := findClass_of_methodNamed B.named
  have hlocks := B.notSynchronized
  subst hsz
  have hD := hD0.self (sz := s.heap.size)
  generalize hAe : va_A (wd_1ad0248d h0 h1 h3 v0 h1 h2 v1 v2 v3 v4 h2 g0 f5 h3 g1 f6) s.heap.size = A at hD h_st_CS h_st_S ⊢
  have hA : ∀ q : Nat, s.heap.size ≤ q → A q := fun q h => by rw [← hAe]; exact Or.inr h
  have hS : va_S A s.heap s.heap [] := va_S.rf
  generalize hQ : (MQ below _ _ s 0 0 A) = Q
  have hl := lv_entry ([.ref h0, .int 6]) (n := 4) (Nat.le_of_ble_eq_true rfl)
  rw [lg_entry_eq]
  generalize (lg_sl ([.ref h0, .int 6]) ++ List.replicate (4 - (lg_sl ([.ref h0, .int 6])).length) Slot.unset).toArray = ls at hl ⊢
  have hl : lv_has ls 4 [(0, .ref h0), (1, .int 6)] := hl
  obtain ⟨H, hH⟩ : ∃ H : Heap, H = s.heap := ⟨_, rfl⟩
  obtain ⟨locs, hlocs⟩ : ∃ y : List Loc, y = [] := ⟨_, rfl⟩
  have hS : va_S A s.heap H locs := by rw [hH, hlocs]; exact va_S.rf
  have hP : va_P (dC, dI) vwCl (wd_1ad0248d h0 h1 h3 v0 h1 h2 v1 v2 v3 v4 h2 g0 f5 h3 g1 f6) H := by rw [hH]; exact hP
  rw [← hH, ← hlocs]
  refine lv_aload_n hx hb dX3_readSum_0 rfl (lv_at hl 0 rfl) ?_
  refine lv_iload_n hx hb dX3_readSum_1 rfl (lv_at hl 1 rfl) ?_
  have hPc := hP.sub (ws' := (wd_1ad0248d h0 h1 h3 v0 h1 h2 v1 v2 v3 v4 h2 g0 f5 h3 g1 f6)) [0, 1, 2, 3] rfl
  have hDc := hD.sub (ws' := (wd_1ad0248d h0 h1 h3 v0 h1 h2 v1 v2 v3 v4 h2 g0 f5 h3 g1 f6)) [0, 1, 2, 3] (by decide) rfl
  have hKc := hK.sub (tys' := [(g0, .int), (g1, .int)]) [0, 1] rfl
  have hFc := va_free (wc := (wd_1ad0248d h0 h1 h3 v0 h1 h2 v1 v2 v3 v4 h2 g0 f5 h3 g1 f6)) hD hS hA [0, 1, 2, 3] rfl
  refine va_calli (va_runV (As := [.int 6]) (rest := []) ⟨hx, hb, hml, hown, hts⟩ (k_X3_readTerm l dC dI adK adV h0 h1 h2 h3 v0 v1 v2 v3 v4 g0 f5 g1 f6 ⟨i_v0a, i_v0b⟩ ⟨i_v1a, i_v1b⟩ ⟨i_v2a, i_v2b⟩ ia_f5 H.size) (cwV 1 hts g_X3_readSum_0 rfl rfl rfl (by decide +kernel) ⟨Nat.le_of_ble_eq_true rfl, Nat.le_of_ble_eq_true rfl⟩) ⟨fun a U g mk q => by obtain ⟨q0, q1, qP, qK, qD, n0, n1, n2⟩ := q; exact ⟨q0, q1, qP, va_K.moved (u := U) (U := U.calling g mk a) (Vm.Alike.refl U.vm) qK, qD, vk_R.same rfl n0, va_Z.moved (Vm.Alike.refl _) n1, vk_S.moved (Vm.Alike.refl _) n2⟩, pv_rc3 hKc hPc (q0 := 0) rfl, fun U hU hW => ⟨rfl, by rw [hU], by rw [hU]; exact hPc, va_K.moved hW.alike hKc, hDc.weaken (fun _ _ _ _ => trivial), vk_R.warm hW h_vr_2, (by rw [hU]; exact (va_Z.moved hW.alike (va_Z.kept h_st_CS hS.2.1)).narrow hFc), (by rw [hU]; exact (vk_S.moved hW.alike (vk_S.kept h_st_S hS.2.1)).narrow hFc)⟩⟩ rfl rfl hl.1 rfl (lv_room (Nat.le_of_ble_eq_true rfl)) dX3_readSum_2 ⟨Nat.le_of_ble_eq_true rfl, Nat.le_of_ble_eq_true rfl⟩) hS (fun q _ h => hFc q h) hFc (fun ra1 u t H1 locs ht hvm hwra1 hB hz1 hk1 hS => ?_)
  try rw [hwra1] at hB
  rcases hB with hB | hB
  · skip
    obtain ⟨x2, x3, x4, fn5, oa_x2, ob_x2, oa_x3, ob_x3, pt0_ra1, pt1_ra1, pt2_ra1, pt3_ra1, hP1, hK1, hD1⟩ := hB
    rw [ht] at hP1
    obtain ⟨hP2, hD2⟩ := va_join (wr := []) (w1 := (wd_1ad0248d h0 h1 h3 x2 h1 h2 v1 x3 v3 x4 h2 g0 f5 h3 g1 fn5)) hP hD [0, 1, 2, 3] [] rfl rfl (by decide) (by decide) hk1 hFc hP1 hD1
    clear hP hD hPc hDc hKc hFc hP1 hK1 hD1 hk1 hz1
    generalize H1 = H at hP2 hS ⊢
    have hP : va_P (dC, dI) vwCl (wd_1ad0248d h0 h1 h3 x2 h1 h2 v1 x3 v3 x4 h2 g0 f5 h3 g1 fn5) H := hP2
    have hD : va_D A (wd_1ad0248d h0 h1 h3 x2 h1 h2 v1 x3 v3 x4 h2 g0 f5 h3 g1 fn5) := hD2
    clear hP2 hD2
    obtain rfl : ra1 = (1 : Int32) := pv_cs (by decide) pt0_ra1 pt1_ra1
    refine lv_if_ne (tgt := 10) hx hb dX3_readSum_5 (by decide) (fun _ => ?_) (fun c => absurd c (by decide))
    refine lv_iconst (v := 0) hx hb dX3_readSum_10 (by decide) ?_
    refine lv_istore_n (lv' := [(2, .int 0), (0, .ref h0), (1, .int 6)]) hx hb dX3_readSum_11 rfl hl (by decide) rfl (fun ls hl => ?_)
    have hL86 : ∀ (n9 : Nat), ∀ (x76 : Int32) (x77 : Int32) (x78 : Int32) (x79 : Int32) (fn80 : Nat → Int32) (H : Heap) (locs : List Loc) (ls : Array Slot), 0 ≤ x76.toInt → x76.toInt ≤ 240 → 0 ≤ x77.toInt → x77.toInt ≤ 256 → 0 ≤ x78.toInt → x78.toInt ≤ 240 → (pg_L f5 v1.toInt 43 45 (pg_term f5 v1.toInt 0) x78.toInt (pg_row f5 v1.toInt 43 45 (pg_term f5 v1.toInt 0) v2.toInt)) → (x76.toInt ≤ x78.toInt) → (v2.toInt ≤ x78.toInt) → (240 - x76.toInt).toNat < n9 → va_P (dC, dI) vwCl (wd_1ad0248d h0 h1 h3 x77 h1 h2 v1 x78 v3 x79 h2 g0 f5 h3 g1 fn80) H → va_D A (wd_1ad0248d h0 h1 h3 x77 h1 h2 v1 x78 v3 x79 h2 g0 f5 h3 g1 fn80) → va_S A s.heap H locs → lv_has ls 4 [(2, .int x76), (0, .ref h0), (1, .int 6)] → W p l e ({ frames := 6, cells := 0, slots := 0, locals := 137 }) s m ([.ref h0, .int 6] : List Value).toArray below meth c H locs 0 0 Q (F0 m 12 ls []) := by
      intro n9
      induction n9 with
      | zero => intro x76 x77 x78 x79 fn80 H locs ls qa_x76 qb_x76 qa_x77 qb_x77 qa_x78 qb_x78 gh0_hL86 gh1_hL86 gh2_hL86 hm9 hP hD hS hl; exact absurd hm9 (Nat.not_lt_zero _)
      | succ n9 ih_hL86 =>
        intro x76 x77 x78 x79 fn80 H locs ls qa_x76 qb_x76 qa_x77 qb_x77 qa_x78 qb_x78 gh0_hL86 gh1_hL86 gh2_hL86 hm9 hP hD hS hl
        refine lv_iload_n hx hb dX3_readSum_12 rfl (lv_at hl 0 rfl) ?_
        refine lv_sipush (v := 240) hx hb dX3_readSum_13 (by decide) ?_
        refine lv_icmp_ge (tgt := 80) hx hb dX3_readSum_16 (by decide) (fun c87 => ?_) (fun c87 => ?_)
        · skip
          have fc87 : 240 ≤ x76.toInt := Int32.le_iff_toInt_le.mp c87
          refine lv_iconst (v := 1) hx hb dX3_readSum_80 (by decide) ?_
          subst hQ
          have hP9 := hP.sub (ws' := (wd_1ad0248d h0 h1 h3 x77 h1 h2 v1 x78 v3 x79 h2 g0 f5 h3 g1 fn80)) [0, 1, 2, 3] rfl
          have hD9 := hD.sub (ws' := (wd_1ad0248d h0 h1 h3 x77 h1 h2 v1 x78 v3 x79 h2 g0 f5 h3 g1 fn80)) [0, 1, 2, 3] (by decide) rfl
          have hK9 := hK.sub (tys' := []) [] rfl
          exact W.zret (v := 1) hx hb hr rfl (fun t ht hW => ⟨⟨1, 1, rfl, rfl, Or.inl ⟨x77, x78, x79, fn80, qa_x77, qb_x77, qa_x78, qb_x78, by first | omega | decide, by first | omega | decide, by omega, by rw [pg_sum.eq]; first | assumption | (apply pg_L.stop <;> first | assumption | omega) | exact pg_L.stop (by assumption) (pg_s.here (by rw [pg_ch.off (by omega)]; decide)) (by rw [pg_ch.off (by omega)]; decide), by rw [ht]; exact hP9, va_K.moved hW.alike hK9, hD9⟩⟩, hS.F ht⟩) hS.2.2 dX3_readSum_81
        · skip
          have fc87 : ¬ (240 ≤ x76.toInt) := fun h9 => c87 (Int32.le_iff_toInt_le.mpr h9)
          refine lv_aload_n hx hb dX3_readSum_19 rfl (lv_at hl 1 rfl) ?_
          refine va_get (D := (dC, dI)) (ci := 3) (v := .ref h1) (C := RX3) (T := TX3) (N := 3) hx hb hts (fun _ h => List.mem_cons_of_mem _ (List.mem_append_left _ (List.mem_append_right _ h))) hown hK hP 0 rfl rfl 0 (by decide) (hts (.fieldLink RX3 19 "LeftArguments$LawReader" "tape" "LLeftArguments$Tape;") (List.mem_cons_of_mem _ (List.mem_append_left _ (List.mem_append_left _ (List.mem_of_getElem? (i := 2) rfl))))) (fun _ h9 => h9) rfl dX3_readSum_20 ?_
          have hPc := hP.sub (ws' := (wd_82cdd16b h1 h2 v1 x78 v3 x79 h2 g0 f5)) [1, 2] rfl
          have hDc := hD.sub (ws' := (wd_82cdd16b h1 h2 v1 x78 v3 x79 h2 g0 f5)) [1, 2] (by decide) rfl
          have hKc := hK.sub (tys' := [(g0, .int)]) [0] rfl
          have hFc := va_free (wc := (wd_82cdd16b h1 h2 v1 x78 v3 x79 h2 g0 f5)) hD hS hA [1, 2] rfl
          refine va_calli (va_runV (As := []) (rest := []) ⟨hx, hb, hml, hown, hts⟩ (k_X10_next l dC dI h1 h2 v1 x78 v3 x79 g0 f5 ⟨i_v1a, i_v1b⟩ ⟨qa_x78, qb_x78⟩ ia_f5 H.size) (cwV 0 hts g_X3_readSum_1 rfl rfl rfl (by decide +kernel) ⟨Nat.le_of_ble_eq_true rfl, Nat.le_of_ble_eq_true rfl⟩) (pv_PV10 hPc hKc hDc (q0 := 0) rfl) rfl rfl hl.1 rfl (lv_room (Nat.le_of_ble_eq_true rfl)) dX3_readSum_23 ⟨Nat.le_of_ble_eq_true rfl, Nat.le_of_ble_eq_true rfl⟩) hS (fun q _ h => hFc q h) hFc (fun ra88 u t H1 locs ht hvm hwra88 hB hz1 hk1 hS => ?_)
          try rw [hwra88] at hB
          rcases hB with hB | hB
          · skip
            obtain ⟨x89, oa_x89, ob_x89, pt0_ra88, pt1_ra88, pt2_ra88, pt3_ra88, pt4_ra88, pt5_ra88, pt6_ra88, hP1, hK1, hD1⟩ := hB
            rw [ht] at hP1
            obtain ⟨hP2, hD2⟩ := va_join (wr := (wd_b958b9da h0 h1 h3 x77 h3 g1 fn80)) (w1 := (wd_82cdd16b h1 h2 v1 x89 v3 x79 h2 g0 f5)) hP hD [1, 2] [0, 3] rfl rfl (by decide) (by decide) hk1 hFc hP1 hD1
            clear hP hD hPc hDc hKc hFc hP1 hK1 hD1 hk1 hz1
            generalize H1 = H at hP2 hS ⊢
            have hP := hP2.sub (ws' := (wd_1ad0248d h0 h1 h3 x77 h1 h2 v1 x89 v3 x79 h2 g0 f5 h3 g1 fn80)) [0, 2, 3, 1] rfl
            have hD := hD2.sub (ws' := (wd_1ad0248d h0 h1 h3 x77 h1 h2 v1 x89 v3 x79 h2 g0 f5 h3 g1 fn80)) [0, 2, 3, 1] (by decide) rfl
            clear hP2 hD2
            obtain rfl : ra88 = ((-1) : Int32) := pv_cs (by decide) pt0_ra88 pt1_ra88
            refine lv_istore_n (lv' := [(3, .int (-1)), (2, .int x76), (0, .ref h0), (1, .int 6)]) hx hb dX3_readSum_26 rfl hl (by decide) rfl (fun ls hl => ?_)
            refine lv_iload_n hx hb dX3_readSum_27 rfl (lv_at hl 0 rfl) ?_
            refine lv_bipush (v := 43) hx hb dX3_readSum_28 (by decide) ?_
            refine lv_icmp_eq (tgt := 41) hx hb dX3_readSum_30 (by decide) (fun c => absurd c (by decide)) (fun _ => ?_)
            refine lv_iload_n hx hb dX3_readSum_33 rfl (lv_at hl 0 rfl) ?_
            refine lv_bipush (v := 45) hx hb dX3_readSum_34 (by decide) ?_
            refine lv_icmp_eq (tgt := 41) hx hb dX3_readSum_36 (by decide) (fun c => absurd c (by decide)) (fun _ => ?_)
            refine lv_iconst (v := 1) hx hb dX3_readSum_39 (by decide) ?_
            subst hQ
            have hP9 := hP.sub (ws' := (wd_1ad0248d h0 h1 h3 x77 h1 h2 v1 x89 v3 x79 h2 g0 f5 h3 g1 fn80)) [0, 1, 2, 3] rfl
            have hD9 := hD.sub (ws' := (wd_1ad0248d h0 h1 h3 x77 h1 h2 v1 x89 v3 x79 h2 g0 f5 h3 g1 fn80)) [0, 1, 2, 3] (by decide) rfl
            have hK9 := hK.sub (tys' := []) [] rfl
            exact W.zret (v := 1) hx hb hr rfl (fun t ht hW => ⟨⟨1, 1, rfl, rfl, Or.inl ⟨x77, x89, x79, fn80, qa_x77, qb_x77, oa_x89, ob_x89, by first | omega | decide, by first | omega | decide, by omega, by rw [pg_sum.eq]; first | assumption | (apply pg_L.stop <;> first | assumption | omega) | exact pg_L.stop (by assumption) (pg_s.here (by rw [pg_ch.off (by omega)]; decide)) (by rw [pg_ch.off (by omega)]; decide), by rw [ht]; exact hP9, va_K.moved hW.alike hK9, hD9⟩⟩, hS.F ht⟩) hS.2.2 dX3_readSum_40
          · skip
            obtain ⟨x90, oa_x90, ob_x90, pt0_ra88, pt1_ra88, pt2_ra88, pt3_ra88, pt4_ra88, pt5_ra88, pt6_ra88, hP1, hK1, hD1⟩ := hB
            rw [ht] at hP1
            obtain ⟨hP2, hD2⟩ := va_join (wr := (wd_b958b9da h0 h1 h3 x77 h3 g1 fn80)) (w1 := (wd_82cdd16b h1 h2 v1 x90 v3 x79 h2 g0 f5)) hP hD [1, 2] [0, 3] rfl rfl (by decide) (by decide) hk1 hFc hP1 hD1
            clear hP hD hPc hDc hKc hFc hP1 hK1 hD1 hk1 hz1
            generalize H1 = H at hP2 hS ⊢
            have hP := hP2.sub (ws' := (wd_1ad0248d h0 h1 h3 x77 h1 h2 v1 x90 v3 x79 h2 g0 f5 h3 g1 fn80)) [0, 2, 3, 1] rfl
            have hD := hD2.sub (ws' := (wd_1ad0248d h0 h1 h3 x77 h1 h2 v1 x90 v3 x79 h2 g0 f5 h3 g1 fn80)) [0, 2, 3, 1] (by decide) rfl
            clear hP2 hD2
            refine lv_istore_n (lv' := [(3, .int ra88), (2, .int x76), (0, .ref h0), (1, .int 6)]) hx hb dX3_readSum_26 rfl hl (by decide) rfl (fun ls hl => ?_)
            refine lv_iload_n hx hb dX3_readSum_27 rfl (lv_at hl 0 rfl) ?_
            refine lv_bipush (v := 43) hx hb dX3_readSum_28 (by decide) ?_
            refine lv_icmp_eq (tgt := 41) hx hb dX3_readSum_30 (by decide) (fun c91 => ?_) (fun c91 => ?_)
            · skip
              have fc91 : ra88.toInt = 43 := congrArg Int32.toInt c91
              refine lv_aload_n hx hb dX3_readSum_41 rfl (lv_at hl 2 rfl) ?_
              refine va_get (D := (dC, dI)) (ci := 3) (v := .ref h1) (C := RX3) (T := TX3) (N := 3) hx hb hts (fun _ h => List.mem_cons_of_mem _ (List.mem_append_left _ (List.mem_append_right _ h))) hown hK hP 0 rfl rfl 0 (by decide) (hts (.fieldLink RX3 19 "LeftArguments$LawReader" "tape" "LLeftArguments$Tape;") (List.mem_cons_of_mem _ (List.mem_append_left _ (List.mem_append_left _ (List.mem_of_getElem? (i := 2) rfl))))) (fun _ h9 => h9) rfl dX3_readSum_42 ?_
              have hPc := hP.sub (ws' := (wd_09b0abee h1 h2 v1 x90 v3 x79)) [1] rfl
              have hDc := hD.sub (ws' := (wd_09b0abee h1 h2 v1 x90 v3 x79)) [1] (by decide) rfl
              have hKc := hK.sub (tys' := []) [] rfl
              have hFc := va_free (wc := (wd_09b0abee h1 h2 v1 x90 v3 x79)) hD hS hA [1] rfl
              refine va_callv (va_runV (As := []) (rest := []) ⟨hx, hb, hml, hown, hts⟩ (k_X10_step l dC dI h1 h2 v1 x90 v3 x79 ⟨i_v1a, i_v1b⟩ ⟨oa_x90, ob_x90⟩ H.size) (cwV 0 hts g_X3_readSum_2 rfl rfl rfl (by decide +kernel) ⟨Nat.le_of_ble_eq_true rfl, Nat.le_of_ble_eq_true rfl⟩) (pv_PV10 hPc hKc hDc (q0 := 0) rfl) rfl rfl hl.1 rfl (lv_room (Nat.le_of_ble_eq_true rfl)) dX3_readSum_45 ⟨Nat.le_of_ble_eq_true rfl, Nat.le_of_ble_eq_true rfl⟩) hS (fun q _ h => hFc q h) hFc (fun u t H1 locs ht hvm hwra92 hB hz1 hk1 hS => ?_)
              obtain ⟨x93, oa_x93, ob_x93, pt0_ra92, hP1, hK1, hD1⟩ := hB
              rw [ht] at hP1
              obtain ⟨hP2, hD2⟩ := va_join (wr := (wd_6b0d8e05 h0 h1 h3 x77 h2 g0 f5 h3 g1 fn80)) (w1 := (wd_09b0abee h1 h2 v1 x93 v3 x79)) hP hD [1] [0, 2, 3] rfl rfl (by decide) (by decide) hk1 hFc hP1 hD1
              clear hP hD hPc hDc hKc hFc hP1 hK1 hD1 hk1 hz1
              generalize H1 = H at hP2 hS ⊢
              have hP := hP2.sub (ws' := (wd_1ad0248d h0 h1 h3 x77 h1 h2 v1 x93 v3 x79 h2 g0 f5 h3 g1 fn80)) [0, 3, 1, 2] rfl
              have hD := hD2.sub (ws' := (wd_1ad0248d h0 h1 h3 x77 h1 h2 v1 x93 v3 x79 h2 g0 f5 h3 g1 fn80)) [0, 3, 1, 2] (by decide) rfl
              clear hP2 hD2
              refine lv_aload_n hx hb dX3_readSum_48 rfl (lv_at hl 2 rfl) ?_
              refine lv_iload_n hx hb dX3_readSum_49 rfl (lv_at hl 3 rfl) ?_
              have hPc := hP.sub (ws' := (wd_1ad0248d h0 h1 h3 x77 h1 h2 v1 x93 v3 x79 h2 g0 f5 h3 g1 fn80)) [0, 1, 2, 3] rfl
              have hDc := hD.sub (ws' := (wd_1ad0248d h0 h1 h3 x77 h1 h2 v1 x93 v3 x79 h2 g0 f5 h3 g1 fn80)) [0, 1, 2, 3] (by decide) rfl
              have hKc := hK.sub (tys' := [(g0, .int), (g1, .int)]) [0, 1] rfl
              have hFc := va_free (wc := (wd_1ad0248d h0 h1 h3 x77 h1 h2 v1 x93 v3 x79 h2 g0 f5 h3 g1 fn80)) hD hS hA [0, 1, 2, 3] rfl
              refine va_calli (va_runV (As := [.int 6]) (rest := []) ⟨hx, hb, hml, hown, hts⟩ (k_X3_readTerm l dC dI adK adV h0 h1 h2 h3 x77 v1 x93 v3 x79 g0 f5 g1 fn80 ⟨qa_x77, qb_x77⟩ ⟨i_v1a, i_v1b⟩ ⟨by first | omega | decide, ob_x93⟩ ia_f5 H.size) (cwV 1 hts g_X3_readSum_0 rfl rfl rfl (by decide +kernel) ⟨Nat.le_of_ble_eq_true rfl, Nat.le_of_ble_eq_true rfl⟩) ⟨fun a U g mk q => by obtain ⟨q0, q1, qP, qK, qD, n0, n1, n2⟩ := q; exact ⟨q0, q1, qP, va_K.moved (u := U) (U := U.calling g mk a) (Vm.Alike.refl U.vm) qK, qD, vk_R.same rfl n0, va_Z.moved (Vm.Alike.refl _) n1, vk_S.moved (Vm.Alike.refl _) n2⟩, pv_rc3 hKc hPc (q0 := 0) rfl, fun U hU hW => ⟨rfl, by rw [hU], by rw [hU]; exact hPc, va_K.moved hW.alike hKc, hDc.weaken (fun _ _ _ _ => trivial), vk_R.warm hW h_vr_2, (by rw [hU]; exact (va_Z.moved hW.alike (va_Z.kept h_st_CS hS.2.1)).narrow hFc), (by rw [hU]; exact (vk_S.moved hW.alike (vk_S.kept h_st_S hS.2.1)).narrow hFc)⟩⟩ rfl rfl hl.1 rfl (lv_room (Nat.le_of_ble_eq_true rfl)) dX3_readSum_50 ⟨Nat.le_of_ble_eq_true rfl, Nat.le_of_ble_eq_true rfl⟩) hS (fun q _ h => hFc q h) hFc (fun ra94 u t H1 locs ht hvm hwra94 hB hz1 hk1 hS => ?_)
              try rw [hwra94] at hB
              rcases hB with hB | hB
              · skip
                obtain ⟨x95, x96, x97, fn98, oa_x95, ob_x95, oa_x96, ob_x96, pt0_ra94, pt1_ra94, pt2_ra94, pt3_ra94, hP1, hK1, hD1⟩ := hB
                rw [ht] at hP1
                obtain ⟨hP2, hD2⟩ := va_join (wr := []) (w1 := (wd_1ad0248d h0 h1 h3 x95 h1 h2 v1 x96 v3 x97 h2 g0 f5 h3 g1 fn98)) hP hD [0, 1, 2, 3] [] rfl rfl (by decide) (by decide) hk1 hFc hP1 hD1
                clear hP hD hPc hDc hKc hFc hP1 hK1 hD1 hk1 hz1
                generalize H1 = H at hP2 hS ⊢
                have hP : va_P (dC, dI) vwCl (wd_1ad0248d h0 h1 h3 x95 h1 h2 v1 x96 v3 x97 h2 g0 f5 h3 g1 fn98) H := hP2
                have hD : va_D A (wd_1ad0248d h0 h1 h3 x95 h1 h2 v1 x96 v3 x97 h2 g0 f5 h3 g1 fn98) := hD2
                clear hP2 hD2
                obtain rfl : ra94 = (1 : Int32) := pv_cs (by decide) pt0_ra94 pt1_ra94
                refine lv_if_ne (tgt := 58) hx hb dX3_readSum_53 (by decide) (fun _ => ?_) (fun c => absurd c (by decide))
                refine lv_aload_n hx hb dX3_readSum_58 rfl (lv_at hl 2 rfl) ?_
                refine lv_iload_n hx hb dX3_readSum_59 rfl (lv_at hl 0 rfl) ?_
                refine lv_bipush (v := 43) hx hb dX3_readSum_60 (by decide) ?_
                refine lv_icmp_ne (tgt := 69) hx hb dX3_readSum_62 (by decide) (fun c99 => by exfalso; have fc99 : ¬ (ra88.toInt = 43) := fun h9 => c99 (Int32.toInt_inj.mp h9); omega) (fun _ => ?_)
                refine lv_iconst (v := 2) hx hb dX3_readSum_65 (by decide) ?_
                refine lv_goto (tgt := 70) hx hb dX3_readSum_66 (by decide) ?_
                refine lv_iconst (v := 0) hx hb dX3_readSum_70 (by decide) ?_
                have hPc := hP.sub (ws' := (wd_b958b9da h0 h1 h3 x95 h3 g1 fn98)) [0, 3] rfl
                have hDc := hD.sub (ws' := (wd_b958b9da h0 h1 h3 x95 h3 g1 fn98)) [0, 3] (by decide) rfl
                have hKc := hK.sub (tys' := [(g1, .int)]) [1] rfl
                have hFc := va_free (wc := (wd_b958b9da h0 h1 h3 x95 h3 g1 fn98)) hD hS hA [0, 3] rfl
                refine va_callv (va_runV (As := [.int 2, .int 0]) (rest := []) ⟨hx, hb, hml, hown, hts⟩ (k_X3_write l dC dI h0 h3 h1 x95 g1 fn98 2 0 ⟨oa_x95, ob_x95⟩ H.size) (cwV 2 hts g_X3_readSum_4 rfl rfl rfl (by decide +kernel) ⟨Nat.le_of_ble_eq_true rfl, Nat.le_of_ble_eq_true rfl⟩) (pv_PV3 hPc hKc hDc (q0 := 0) rfl) rfl rfl hl.1 rfl (lv_room (Nat.le_of_ble_eq_true rfl)) dX3_readSum_71 ⟨Nat.le_of_ble_eq_true rfl, Nat.le_of_ble_eq_true rfl⟩) hS (fun q _ h => hFc q h) hFc (fun u t H1 locs ht hvm hwra100 hB hz1 hk1 hS => ?_)
                obtain ⟨x101, fn102, oa_x101, ob_x101, hP1, hK1, hD1⟩ := hB
                rw [ht] at hP1
                obtain ⟨hP2, hD2⟩ := va_join (wr := (wd_82cdd16b h1 h2 v1 x96 v3 x97 h2 g0 f5)) (w1 := (wd_b958b9da h0 h1 h3 x101 h3 g1 fn102)) hP hD [0, 3] [1, 2] rfl rfl (by decide) (by decide) hk1 hFc hP1 hD1
                clear hP hD hPc hDc hKc hFc hP1 hK1 hD1 hk1 hz1
                generalize H1 = H at hP2 hS ⊢
                have hP := hP2.sub (ws' := (wd_1ad0248d h0 h1 h3 x101 h1 h2 v1 x96 v3 x97 h2 g0 f5 h3 g1 fn102)) [2, 0, 1, 3] rfl
                have hD := hD2.sub (ws' := (wd_1ad0248d h0 h1 h3 x101 h1 h2 v1 x96 v3 x97 h2 g0 f5 h3 g1 fn102)) [2, 0, 1, 3] (by decide) rfl
                clear hP2 hD2
                obtain ⟨t103, et103⟩ : ∃ y : Int32, y = x76 + 1 := ⟨_, rfl⟩
                have gt103 : t103.toInt = x76.toInt + (1) := pv_add (a := x76.toInt) (b := (1)) et103 rfl (by decide) (by omega) (by omega)
                refine lv_iinc (v := t103) (lv' := [(2, .int t103), (3, .int ra88), (0, .ref h0), (1, .int 6)]) hx hb dX3_readSum_74 hl (k := 1) rfl (by rw [et103]; rfl) (by decide) rfl (fun ls hl => ?_)
                refine lv_goto (tgt := 12) hx hb dX3_readSum_77 (by decide) ?_
                exact ih_hL86 t103 x101 x96 x97 fn102 H locs ls (by first | omega | decide) (by first | omega | decide) oa_x101 ob_x101 oa_x96 ob_x96 (by first | assumption | (apply pg_row.go <;> first | assumption | omega) | (apply pg_L.bi <;> first | assumption | omega) | (apply pg_L.step <;> first | assumption | omega)) (by first | omega | ((have h09 : ((0 : Int32)).toInt = 0 := by decide); omega)) (by omega) (by first | omega | (simp only [Int.toNat] at *; omega)) hP hD hS (lv_sub hl [0, 2, 3] rfl)
              · skip
                obtain ⟨x104, x105, x106, x107, fn108, oa_x104, ob_x104, oa_x105, ob_x105, oa_x106, ob_x106, pt0_ra94, pt1_ra94, pt2_ra94, pt3_ra94, hP1, hK1, hD1⟩ := hB
                rw [ht] at hP1
                obtain ⟨hP2, hD2⟩ := va_join (wr := []) (w1 := (wd_1ad0248d h0 h1 h3 x104 h1 h2 v1 x105 x106 x107 h2 g0 f5 h3 g1 fn108)) hP hD [0, 1, 2, 3] [] rfl rfl (by decide) (by decide) hk1 hFc hP1 hD1
                clear hP hD hPc hDc hKc hFc hP1 hK1 hD1 hk1 hz1
                generalize H1 = H at hP2 hS ⊢
                have hP : va_P (dC, dI) vwCl (wd_1ad0248d h0 h1 h3 x104 h1 h2 v1 x105 x106 x107 h2 g0 f5 h3 g1 fn108) H := hP2
                have hD : va_D A (wd_1ad0248d h0 h1 h3 x104 h1 h2 v1 x105 x106 x107 h2 g0 f5 h3 g1 fn108) := hD2
                clear hP2 hD2
                obtain rfl : ra94 = (0 : Int32) := pv_cs (by decide) pt0_ra94 pt1_ra94
                refine lv_if_ne (tgt := 58) hx hb dX3_readSum_53 (by decide) (fun c => absurd (by decide) c) (fun _ => ?_)
                refine lv_iconst (v := 0) hx hb dX3_readSum_56 (by decide) ?_
                subst hQ
                have hP9 := hP.sub (ws' := (wd_1ad0248d h0 h1 h3 x104 h1 h2 v1 x105 x106 x107 h2 g0 f5 h3 g1 fn108)) [0, 1, 2, 3] rfl
                have hD9 := hD.sub (ws' := (wd_1ad0248d h0 h1 h3 x104 h1 h2 v1 x105 x106 x107 h2 g0 f5 h3 g1 fn108)) [0, 1, 2, 3] (by decide) rfl
                have hK9 := hK.sub (tys' := []) [] rfl
                exact W.zret (v := 0) hx hb hr rfl (fun t ht hW => ⟨⟨0, 0, rfl, rfl, Or.inr (⟨x104, x105, x106, x107, fn108, oa_x104, ob_x104, oa_x105, ob_x105, oa_x106, ob_x106, by first | omega | decide, by first | omega | decide, by omega, by rw [pg_sum.eq]; first | assumption | (apply pg_row.no <;> first | assumption | omega) | (apply pg_L.no <;> first | assumption | omega), by rw [ht]; exact hP9, va_K.moved hW.alike hK9, hD9⟩)⟩, hS.F ht⟩) hS.2.2 dX3_readSum_57
            · skip
              have fc91 : ¬ (ra88.toInt = 43) := fun h9 => c91 (Int32.toInt_inj.mp h9)
              refine lv_iload_n hx hb dX3_readSum_33 rfl (lv_at hl 0 rfl) ?_
              refine lv_bipush (v := 45) hx hb dX3_readSum_34 (by decide) ?_
              refine lv_icmp_eq (tgt := 41) hx hb dX3_readSum_36 (by decide) (fun c109 => ?_) (fun c109 => ?_)
              · skip
                have fc109 : ra88.toInt = 45 := congrArg Int32.toInt c109
                refine lv_aload_n hx hb dX3_readSum_41 rfl (lv_at hl 2 rfl) ?_
                refine va_get (D := (dC, dI)) (ci := 3) (v := .ref h1) (C := RX3) (T := TX3) (N := 3) hx hb hts (fun _ h => List.mem_cons_of_mem _ (List.mem_append_left _ (List.mem_append_right _ h))) hown hK hP 0 rfl rfl 0 (by decide) (hts (.fieldLink RX3 19 "LeftArguments$LawReader" "tape" "LLeftArguments$Tape;") (List.mem_cons_of_mem _ (List.mem_append_left _ (List.mem_append_left _ (List.mem_of_getElem? (i := 2) rfl))))) (fun _ h9 => h9) rfl dX3_readSum_42 ?_
                have hPc := hP.sub (ws' := (wd_09b0abee h1 h2 v1 x90 v3 x79)) [1] rfl
                have hDc := hD.sub (ws' := (wd_09b0abee h1 h2 v1 x90 v3 x79)) [1] (by decide) rfl
                have hKc := hK.sub (tys' := []) [] rfl
                have hFc := va_free (wc := (wd_09b0abee h1 h2 v1 x90 v3 x79)) hD hS hA [1] rfl
                refine va_callv (va_runV (As := []) (rest := []) ⟨hx, hb, hml, hown, hts⟩ (k_X10_step l dC dI h1 h2 v1 x90 v3 x79 ⟨i_v1a, i_v1b⟩ ⟨oa_x90, ob_x90⟩ H.size) (cwV 0 hts g_X3_readSum_2 rfl rfl rfl (by decide +kernel) ⟨Nat.le_of_ble_eq_true rfl, Nat.le_of_ble_eq_true rfl⟩) (pv_PV10 hPc hKc hDc (q0 := 0) rfl) rfl rfl hl.1 rfl (lv_room (Nat.le_of_ble_eq_true rfl)) dX3_readSum_45 ⟨Nat.le_of_ble_eq_true rfl, Nat.le_of_ble_eq_true rfl⟩) hS (fun q _ h => hFc q h) hFc (fun u t H1 locs ht hvm hwra110 hB hz1 hk1 hS => ?_)
                obtain ⟨x111, oa_x111, ob_x111, pt0_ra110, hP1, hK1, hD1⟩ := hB
                rw [ht] at hP1
                obtain ⟨hP2, hD2⟩ := va_join (wr := (wd_6b0d8e05 h0 h1 h3 x77 h2 g0 f5 h3 g1 fn80)) (w1 := (wd_09b0abee h1 h2 v1 x111 v3 x79)) hP hD [1] [0, 2, 3] rfl rfl (by decide) (by decide) hk1 hFc hP1 hD1
                clear hP hD hPc hDc hKc hFc hP1 hK1 hD1 hk1 hz1
                generalize H1 = H at hP2 hS ⊢
                have hP := hP2.sub (ws' := (wd_1ad0248d h0 h1 h3 x77 h1 h2 v1 x111 v3 x79 h2 g0 f5 h3 g1 fn80)) [0, 3, 1, 2] rfl
                have hD := hD2.sub (ws' := (wd_1ad0248d h0 h1 h3 x77 h1 h2 v1 x111 v3 x79 h2 g0 f5 h3 g1 fn80)) [0, 3, 1, 2] (by decide) rfl
                clear hP2 hD2
                refine lv_aload_n hx hb dX3_readSum_48 rfl (lv_at hl 2 rfl) ?_
                refine lv_iload_n hx hb dX3_readSum_49 rfl (lv_at hl 3 rfl) ?_
                have hPc := hP.sub (ws' := (wd_1ad0248d h0 h1 h3 x77 h1 h2 v1 x111 v3 x79 h2 g0 f5 h3 g1 fn80)) [0, 1, 2, 3] rfl
                have hDc := hD.sub (ws' := (wd_1ad0248d h0 h1 h3 x77 h1 h2 v1 x111 v3 x79 h2 g0 f5 h3 g1 fn80)) [0, 1, 2, 3] (by decide) rfl
                have hKc := hK.sub (tys' := [(g0, .int), (g1, .int)]) [0, 1] rfl
                have hFc := va_free (wc := (wd_1ad0248d h0 h1 h3 x77 h1 h2 v1 x111 v3 x79 h2 g0 f5 h3 g1 fn80)) hD hS hA [0, 1, 2, 3] rfl
                refine va_calli (va_runV (As := [.int 6]) (rest := []) ⟨hx, hb, hml, hown, hts⟩ (k_X3_readTerm l dC dI adK adV h0 h1 h2 h3 x77 v1 x111 v3 x79 g0 f5 g1 fn80 ⟨qa_x77, qb_x77⟩ ⟨i_v1a, i_v1b⟩ ⟨by first | omega | decide, ob_x111⟩ ia_f5 H.size) (cwV 1 hts g_X3_readSum_0 rfl rfl rfl (by decide +kernel) ⟨Nat.le_of_ble_eq_true rfl, Nat.le_of_ble_eq_true rfl⟩) ⟨fun a U g mk q => by obtain ⟨q0, q1, qP, qK, qD, n0, n1, n2⟩ := q; exact ⟨q0, q1, qP, va_K.moved (u := U) (U := U.calling g mk a) (Vm.Alike.refl U.vm) qK, qD, vk_R.same rfl n0, va_Z.moved (Vm.Alike.refl _) n1, vk_S.moved (Vm.Alike.refl _) n2⟩, pv_rc3 hKc hPc (q0 := 0) rfl, fun U hU hW => ⟨rfl, by rw [hU], by rw [hU]; exact hPc, va_K.moved hW.alike hKc, hDc.weaken (fun _ _ _ _ => trivial), vk_R.warm hW h_vr_2, (by rw [hU]; exact (va_Z.moved hW.alike (va_Z.kept h_st_CS hS.2.1)).narrow hFc), (by rw [hU]; exact (vk_S.moved hW.alike (vk_S.kept h_st_S hS.2.1)).narrow hFc)⟩⟩ rfl rfl hl.1 rfl (lv_room (Nat.le_of_ble_eq_true rfl)) dX3_readSum_50 ⟨Nat.le_of_ble_eq_true rfl, Nat.le_of_ble_eq_true rfl⟩) hS (fun q _ h => hFc q h) hFc (fun ra112 u t H1 locs ht hvm hwra112 hB hz1 hk1 hS => ?_)
                try rw [hwra112] at hB
                rcases hB with hB | hB
                · skip
                  obtain ⟨x113, x114, x115, fn116, oa_x113, ob_x113, oa_x114, ob_x114, pt0_ra112, pt1_ra112, pt2_ra112, pt3_ra112, hP1, hK1, hD1⟩ := hB
                  rw [ht] at hP1
                  obtain ⟨hP2, hD2⟩ := va_join (wr := []) (w1 := (wd_1ad0248d h0 h1 h3 x113 h1 h2 v1 x114 v3 x115 h2 g0 f5 h3 g1 fn116)) hP hD [0, 1, 2, 3] [] rfl rfl (by decide) (by decide) hk1 hFc hP1 hD1
                  clear hP hD hPc hDc hKc hFc hP1 hK1 hD1 hk1 hz1
                  generalize H1 = H at hP2 hS ⊢
                  have hP : va_P (dC, dI) vwCl (wd_1ad0248d h0 h1 h3 x113 h1 h2 v1 x114 v3 x115 h2 g0 f5 h3 g1 fn116) H := hP2
                  have hD : va_D A (wd_1ad0248d h0 h1 h3 x113 h1 h2 v1 x114 v3 x115 h2 g0 f5 h3 g1 fn116) := hD2
                  clear hP2 hD2
                  obtain rfl : ra112 = (1 : Int32) := pv_cs (by decide) pt0_ra112 pt1_ra112
                  refine lv_if_ne (tgt := 58) hx hb dX3_readSum_53 (by decide) (fun _ => ?_) (fun c => absurd c (by decide))
                  refine lv_aload_n hx hb dX3_readSum_58 rfl (lv_at hl 2 rfl) ?_
                  refine lv_iload_n hx hb dX3_readSum_59 rfl (lv_at hl 0 rfl) ?_
                  refine lv_bipush (v := 43) hx hb dX3_readSum_60 (by decide) ?_
                  refine lv_icmp_ne (tgt := 69) hx hb dX3_readSum_62 (by decide) (fun _ => ?_) (fun c117 => by exfalso; have fc117 : ra88.toInt = 43 := congrArg Int32.toInt c117; omega)
                  refine lv_iconst (v := 3) hx hb dX3_readSum_69 (by decide) ?_
                  refine lv_iconst (v := 0) hx hb dX3_readSum_70 (by decide) ?_
                  have hPc := hP.sub (ws' := (wd_b958b9da h0 h1 h3 x113 h3 g1 fn116)) [0, 3] rfl
                  have hDc := hD.sub (ws' := (wd_b958b9da h0 h1 h3 x113 h3 g1 fn116)) [0, 3] (by decide) rfl
                  have hKc := hK.sub (tys' := [(g1, .int)]) [1] rfl
                  have hFc := va_free (wc := (wd_b958b9da h0 h1 h3 x113 h3 g1 fn116)) hD hS hA [0, 3] rfl
                  refine va_callv (va_runV (As := [.int 3, .int 0]) (rest := []) ⟨hx, hb, hml, hown, hts⟩ (k_X3_write l dC dI h0 h3 h1 x113 g1 fn116 3 0 ⟨oa_x113, ob_x113⟩ H.size) (cwV 2 hts g_X3_readSum_4 rfl rfl rfl (by decide +kernel) ⟨Nat.le_of_ble_eq_true rfl, Nat.le_of_ble_eq_true rfl⟩) (pv_PV3 hPc hKc hDc (q0 := 0) rfl) rfl rfl hl.1 rfl (lv_room (Nat.le_of_ble_eq_true rfl)) dX3_readSum_71 ⟨Nat.le_of_ble_eq_true rfl, Nat.le_of_ble_eq_true rfl⟩) hS (fun q _ h => hFc q h) hFc (fun u t H1 locs ht hvm hwra118 hB hz1 hk1 hS => ?_)
                  obtain ⟨x119, fn120, oa_x119, ob_x119, hP1, hK1, hD1⟩ := hB
                  rw [ht] at hP1
                  obtain ⟨hP2, hD2⟩ := va_join (wr := (wd_82cdd16b h1 h2 v1 x114 v3 x115 h2 g0 f5)) (w1 := (wd_b958b9da h0 h1 h3 x119 h3 g1 fn120)) hP hD [0, 3] [1, 2] rfl rfl (by decide) (by decide) hk1 hFc hP1 hD1
                  clear hP hD hPc hDc hKc hFc hP1 hK1 hD1 hk1 hz1
                  generalize H1 = H at hP2 hS ⊢
                  have hP := hP2.sub (ws' := (wd_1ad0248d h0 h1 h3 x119 h1 h2 v1 x114 v3 x115 h2 g0 f5 h3 g1 fn120)) [2, 0, 1, 3] rfl
                  have hD := hD2.sub (ws' := (wd_1ad0248d h0 h1 h3 x119 h1 h2 v1 x114 v3 x115 h2 g0 f5 h3 g1 fn120)) [2, 0, 1, 3] (by decide) rfl
                  clear hP2 hD2
                  obtain ⟨t121, et121⟩ : ∃ y : Int32, y = x76 + 1 := ⟨_, rfl⟩
                  have gt121 : t121.toInt = x76.toInt + (1) := pv_add (a := x76.toInt) (b := (1)) et121 rfl (by decide) (by omega) (by omega)
                  refine lv_iinc (v := t121) (lv' := [(2, .int t121), (3, .int ra88), (0, .ref h0), (1, .int 6)]) hx hb dX3_readSum_74 hl (k := 1) rfl (by rw [et121]; rfl) (by decide) rfl (fun ls hl => ?_)
                  refine lv_goto (tgt := 12) hx hb dX3_readSum_77 (by decide) ?_
                  exact ih_hL86 t121 x119 x114 x115 fn120 H locs ls (by first | omega | decide) (by first | omega | decide) oa_x119 ob_x119 oa_x114 ob_x114 (by first | assumption | (apply pg_row.go <;> first | assumption | omega) | (apply pg_L.bi <;> first | assumption | omega) | (apply pg_L.step <;> first | assumption | omega)) (by first | omega | ((have h09 : ((0 : Int32)).toInt = 0 := by decide); omega)) (by omega) (by first | omega | (simp only [Int.toNat] at *; omega)) hP hD hS (lv_sub hl [0, 2, 3] rfl)
                · skip
                  obtain ⟨x122, x123, x124, x125, fn126, oa_x122, ob_x122, oa_x123, ob_x123, oa_x124, ob_x124, pt0_ra112, pt1_ra112, pt2_ra112, pt3_ra112, hP1, hK1, hD1⟩ := hB
                  rw [ht] at hP1
                  obtain ⟨hP2, hD2⟩ := va_join (wr := []) (w1 := (wd_1ad0248d h0 h1 h3 x122 h1 h2 v1 x123 x124 x125 h2 g0 f5 h3 g1 fn126)) hP hD [0, 1, 2, 3] [] rfl rfl (by decide) (by decide) hk1 hFc hP1 hD1
                  clear hP hD hPc hDc hKc hFc hP1 hK1 hD1 hk1 hz1
                  generalize H1 = H at hP2 hS ⊢
                  have hP : va_P (dC, dI) vwCl (wd_1ad0248d h0 h1 h3 x122 h1 h2 v1 x123 x124 x125 h2 g0 f5 h3 g1 fn126) H := hP2
                  have hD : va_D A (wd_1ad0248d h0 h1 h3 x122 h1 h2 v1 x123 x124 x125 h2 g0 f5 h3 g1 fn126) := hD2
                  clear hP2 hD2
                  obtain rfl : ra112 = (0 : Int32) := pv_cs (by decide) pt0_ra112 pt1_ra112
                  refine lv_if_ne (tgt := 58) hx hb dX3_readSum_53 (by decide) (fun c => absurd (by decide) c) (fun _ => ?_)
                  refine lv_iconst (v := 0) hx hb dX3_readSum_56 (by decide) ?_
                  subst hQ
                  have hP9 := hP.sub (ws' := (wd_1ad0248d h0 h1 h3 x122 h1 h2 v1 x123 x124 x125 h2 g0 f5 h3 g1 fn126)) [0, 1, 2, 3] rfl
                  have hD9 := hD.sub (ws' := (wd_1ad0248d h0 h1 h3 x122 h1 h2 v1 x123 x124 x125 h2 g0 f5 h3 g1 fn126)) [0, 1, 2, 3] (by decide) rfl
                  have hK9 := hK.sub (tys' := []) [] rfl
                  exact W.zret (v := 0) hx hb hr rfl (fun t ht hW => ⟨⟨0, 0, rfl, rfl, Or.inr (⟨x122, x123, x124, x125, fn126, oa_x122, ob_x122, oa_x123, ob_x123, oa_x124, ob_x124, by first | omega | decide, by first | omega | decide, by omega, by rw [pg_sum.eq]; first | assumption | (apply pg_row.no <;> first | assumption | omega) | (apply pg_L.no <;> first | assumption | omega), by rw [ht]; exact hP9, va_K.moved hW.alike hK9, hD9⟩)⟩, hS.F ht⟩) hS.2.2 dX3_readSum_57
              · skip
                have fc109 : ¬ (ra88.toInt = 45) := fun h9 => c109 (Int32.toInt_inj.mp h9)
                refine lv_iconst (v := 1) hx hb dX3_readSum_39 (by decide) ?_
                subst hQ
                have hP9 := hP.sub (ws' := (wd_1ad0248d h0 h1 h3 x77 h1 h2 v1 x90 v3 x79 h2 g0 f5 h3 g1 fn80)) [0, 1, 2, 3] rfl
                have hD9 := hD.sub (ws' := (wd_1ad0248d h0 h1 h3 x77 h1 h2 v1 x90 v3 x79 h2 g0 f5 h3 g1 fn80)) [0, 1, 2, 3] (by decide) rfl
                have hK9 := hK.sub (tys' := []) [] rfl
                exact W.zret (v := 1) hx hb hr rfl (fun t ht hW => ⟨⟨1, 1, rfl, rfl, Or.inl ⟨x77, x90, x79, fn80, qa_x77, qb_x77, oa_x90, by first | omega | decide, by first | omega | decide, by first | omega | decide, by omega, by rw [pg_sum.eq]; first | assumption | (apply pg_L.stop <;> first | assumption | omega) | exact pg_L.stop (by assumption) (pg_s.here (by rw [pg_ch.off (by omega)]; decide)) (by rw [pg_ch.off (by omega)]; decide), by rw [ht]; exact hP9, va_K.moved hW.alike hK9, hD9⟩⟩, hS.F ht⟩) hS.2.2 dX3_readSum_40
    exact hL86 _ 0 x2 x3 x4 fn5 H locs ls (by decide) (by decide) oa_x2 ob_x2 oa_x3 ob_x3 (by first | assumption | (apply pg_row.go <;> first | assumption | omega) | (apply pg_L.bi <;> first | assumption | omega) | (apply pg_L.step <;> first | assumption | omega)) (by first | omega | ((have h09 : ((0 : Int32)).toInt = 0 := by decide); omega)) (by omega) (Nat.lt_succ_self _) hP hD hS (lv_sub hl [0, 1, 2] rfl)
  · skip
    obtain ⟨x127, x128, x129, x130, fn131, oa_x127, ob_x127, oa_x128, ob_x128, oa_x129, ob_x129, pt0_ra1, pt1_ra1, pt2_ra1, pt3_ra1, hP1, hK1, hD1⟩ := hB
    rw [ht] at hP1
    obtain ⟨hP2, hD2⟩ := va_join (wr := []) (w1 := (wd_1ad0248d h0 h1 h3 x127 h1 h2 v1 x128 x129 x130 h2 g0 f5 h3 g1 fn131)) hP hD [0, 1, 2, 3] [] rfl rfl (by decide) (by decide) hk1 hFc hP1 hD1
    clear hP hD hPc hDc hKc hFc hP1 hK1 hD1 hk1 hz1
    generalize H1 = H at hP2 hS ⊢
    have hP : va_P (dC, dI) vwCl (wd_1ad0248d h0 h1 h3 x127 h1 h2 v1 x128 x129 x130 h2 g0 f5 h3 g1 fn131) H := hP2
    have hD : va_D A (wd_1ad0248d h0 h1 h3 x127 h1 h2 v1 x128 x129 x130 h2 g0 f5 h3 g1 fn131) := hD2
    clear hP2 hD2
    obtain rfl : ra1 = (0 : Int32) := pv_cs (by decide) pt0_ra1 pt1_ra1
    refine lv_if_ne (tgt := 10) hx hb dX3_readSum_5 (by decide) (fun c => absurd (by decide) c) (fun _ => ?_)
    refine lv_iconst (v := 0) hx hb dX3_readSum_8 (by decide) ?_
    subst hQ
    have hP9 := hP.sub (ws' := (wd_1ad0248d h0 h1 h3 x127 h1 h2 v1 x128 x129 x130 h2 g0 f5 h3 g1 fn131)) [0, 1, 2, 3] rfl
    have hD9 := hD.sub (ws' := (wd_1ad0248d h0 h1 h3 x127 h1 h2 v1 x128 x129 x130 h2 g0 f5 h3 g1 fn131)) [0, 1, 2, 3] (by decide) rfl
    have hK9 := hK.sub (tys' := []) [] rfl
    exact W.zret (v := 0) hx hb hr rfl (fun t ht hW => ⟨⟨0, 0, rfl, rfl, Or.inr (⟨x127, x128, x129, x130, fn131, oa_x127, ob_x127, oa_x128, ob_x128, oa_x129, ob_x129, by first | omega | decide, by first | omega | decide, by omega, by rw [pg_sum.eq]; first | assumption | (apply pg_row.no <;> first | assumption | omega) | (apply pg_L.no <;> first | assumption | omega), by rw [ht]; exact hP9, va_K.moved hW.alike hK9, hD9⟩)⟩, hS.F ht⟩) hS.2.2 dX3_readSum_9
def q_X10_take_2 : List Cond := .code yX10_take cX10_take 2 (some .boolean) :: (([.code yX10_next cX10_next 1 (some .int), .fieldLink RX10 19 "LeftArguments$Tape" "at" "I", .fieldLink RX10 15 "LeftArguments$Tape" "used" "I", .fieldLink RX10 9 "LeftArguments$Tape" "bytes" "[I", .initialized RX10, .instanceMethod yX10_next, .selects RX10 yX10_next yX10_next, .methodLink RX10 37 yX10_next, .code yX10_wrongHere cX10_wrongHere 1 (some .boolean), .fieldLink RX10 22 "LeftArguments$Tape" "wrongAt" "I", .instanceMethod yX10_wrongHere, .selects RX10 yX10_wrongHere yX10_wrongHere, .methodLink RX10 41 yX10_wrongHere] : List Cond) ++ wsX100)
set_option maxRecDepth 20000 in
theorem g_X10_take_2_0 : GoodIn q_X10_take_2 (wsV RX10 37 RX10 yX10_next q_X10_next) := goodIn_app (goodIn_r _ [8, 6, 7, 5] rfl (by decide +kernel)) (goodIn_ca (goodIn_r (.code yX10_next cX10_next 1 (some .int) :: [.fieldLink RX10 19 "LeftArguments$Tape" "at" "I", .fieldLink RX10 15 "LeftArguments$Tape" "used" "I", .fieldLink RX10 9 "LeftArguments$Tape" "bytes" "[I"]) [1, 2, 3, 4] rfl (by decide +kernel)) (goodIn_sub (fun _ h => List.mem_cons_of_mem _ (List.mem_append_right _ h)) gwX10))
set_option maxRecDepth 20000 in
theorem g_X10_take_2_1 : GoodIn q_X10_take_2 (wsV RX10 41 RX10 yX10_wrongHere q_X10_wrongHere) := goodIn_app (goodIn_r _ [13, 11, 12, 5] rfl (by decide +kernel)) (goodIn_ca (goodIn_r (.code yX10_wrongHere cX10_wrongHere 1 (some .boolean) :: [.fieldLink RX10 19 "LeftArguments$Tape" "at" "I", .fieldLink RX10 22 "LeftArguments$Tape" "wrongAt" "I"]) [9, 2, 10] rfl (by decide +kernel)) (goodIn_sub (fun _ h => List.mem_cons_of_mem _ (List.mem_append_right _ h)) gwX10))
set_option maxHeartbeats 4000000 in
set_option maxRecDepth 100000 in
theorem k_X10_take_2 (l : Launch) (dC : Nat → ClassId) (dI : Nat → Nat → Nat) (h0 : Nat) (h1 : Nat) (v0 : Int32) (v1 : Int32) (v2 : Int32) (v3 : Int32) (g0 : ClassId) (f4 : Nat → Int32) (i_v0 : 0 ≤ v0.toInt ∧ v0.toInt ≤ 240) (i_v1 : 0 ≤ v1.toInt ∧ v1.toInt ≤ 240) (ia_f4 : (∀ j, 0 ≤ (f4 j).toInt ∧ (f4 j).toInt ≤ 255)) (sz : Nat) : Met l yX10_take q_X10_take_2 ({ frames := 1, cells := 0, slots := 0, locals := 20 }) (va_Pc [.ref h0, .int 93] (fun U => U.heap.size = sz ∧ va_P (dC, dI) vwCl (wd_82cdd16b h0 h1 v0 v1 v2 v3 h1 g0 f4) U.heap ∧ va_K (dC, dI) vwCl [(g0, .int)] U ∧ va_D (fun _ => True) (wd_82cdd16b h0 h1 v0 v1 v2 v3 h1 g0 f4))) (va_Qi (fun (r : Int32) (r9 : Int32) => r9 = r) (fun (r : Int32) (t : State) => (∃ (o_h0_2 : Int32), 1 ≤ o_h0_2.toInt ∧ o_h0_2.toInt ≤ 240 ∧ (1 ≤ r.toInt) ∧ (r.toInt ≤ 1) ∧ (v1.toInt ≤ o_h0_2.toInt) ∧ (pg_take f4 v0.toInt 93 v1.toInt = (true, o_h0_2.toInt)) ∧ va_P (dC, dI) vwCl (wd_82cdd16b h0 h1 v0 o_h0_2 v2 v3 h1 g0 f4) t.heap ∧ va_K (dC, dI) vwCl [] t ∧ va_D (va_A (wd_82cdd16b h0 h1 v0 v1 v2 v3 h1 g0 f4) sz) (wd_82cdd16b h0 h1 v0 o_h0_2 v2 v3 h1 g0 f4)) ∨ (∃ (o_h0_2 : Int32) (o_h0_3 : Int32), 0 ≤ o_h0_2.toInt ∧ o_h0_2.toInt ≤ 240 ∧ 0 ≤ o_h0_3.toInt ∧ o_h0_3.toInt ≤ 240 ∧ (0 ≤ r.toInt) ∧ (r.toInt ≤ 0) ∧ (v1.toInt ≤ o_h0_2.toInt) ∧ (pg_take f4 v0.toInt 93 v1.toInt = (false, o_h0_3.toInt)) ∧ va_P (dC, dI) vwCl (wd_82cdd16b h0 h1 v0 o_h0_2 o_h0_3 v3 h1 g0 f4) t.heap ∧ va_K (dC, dI) vwCl [] t ∧ va_D (va_A (wd_82cdd16b h0 h1 v0 v1 v2 v3 h1 g0 f4) sz) (wd_82cdd16b h0 h1 v0 o_h0_2 o_h0_3 v3 h1 g0 f4))) (va_A (wd_82cdd16b h0 h1 v0 v1 v2 v3 h1 g0 f4) sz)) 0 0 (va_A (wd_82cdd16b h0 h1 v0 v1 v2 v3 h1 g0 f4) sz) := by
  refine Met.ofW (cc := cX10_take) (maxL := 2) (ret := (some .boolean)) (by decide) rfl ?_
  intro p e s m args below meth c s₁ B hml hv
  obtain ⟨i_v0a, i_v0b⟩ := i_v0
  obtain ⟨i_v1a, i_v1b⟩ := i_v1
  obtain ⟨rfl, hsz, hP, hK, hD0⟩ := hv
  have hx := B.exec
  have hb := B.bytes
  have hr := B.returns
  have hts := atoms_spec (ws := q_X10_take_2) B.pre
  have hown : s.vm.findClass RX10 = some m.cls := findClass_of_methodNamed B.named
  have hlocks := B.notSynchronized
  subst hsz
  have hD := hD0.self (sz := s.heap.size)
  generalize hAe : va_A (wd_82cdd16b h0 h1 v0 v1 v2 v3 h1 g0 f4) s.heap.size = A at hD ⊢
  have hA : ∀ q : Nat, s.heap.size ≤ q → A q := fun q h => by rw [← hAe]; exact Or.inr h
  have hS : va_S A s.heap s.heap [] := va_S.rf
  generalize hQ : (MQ below _ _ s 0 0 A) = Q
  have hl := lv_entry ([.ref h0, .int 93]) (n := 2) (Nat.le_of_ble_eq_true rfl)
  rw [lg_entry_eq]
  generalize (lg_sl ([.ref h0, .int 93]) ++ List.replicate (2 - (lg_sl ([.ref h0, .int 93])).length) Slot.unset).toArray = ls at hl ⊢
  have hl : lv_has ls 2 [(0, .ref h0), (1, .int 93)] := hl
  obtain ⟨H, hH⟩ : ∃ H : Heap, H = s.heap := ⟨_, rfl⟩
  obtain ⟨locs, hlocs⟩ : ∃ y : List Loc, y = [] := ⟨_, rfl⟩
  have hS : va_S A s.heap H locs := by rw [hH, hlocs]; exact va_S.rf
  have hP : va_P (dC, dI) vwCl (wd_82cdd16b h0 h1 v0 v1 v2 v3 h1 g0 f4) H := by rw [hH]; exact hP
  rw [← hH, ← hlocs]
  refine lv_aload_n hx hb dX10_take_0 rfl (lv_at hl 0 rfl) ?_
  have hPc := hP.sub (ws' := (wd_82cdd16b h0 h1 v0 v1 v2 v3 h1 g0 f4)) [0, 1] rfl
  have hDc := hD.sub (ws' := (wd_82cdd16b h0 h1 v0 v1 v2 v3 h1 g0 f4)) [0, 1] (by decide) rfl
  have hKc := hK.sub (tys' := [(g0, .int)]) [0] rfl
  have hFc := va_free (wc := (wd_82cdd16b h0 h1 v0 v1 v2 v3 h1 g0 f4)) hD hS hA [0, 1] rfl
  refine va_calli (va_runV (As := []) (rest := []) ⟨hx, hb, hml, hown, hts⟩ (k_X10_next l dC dI h0 h1 v0 v1 v2 v3 g0 f4 ⟨i_v0a, i_v0b⟩ ⟨i_v1a, i_v1b⟩ ia_f4 H.size) (cwV 0 hts g_X10_take_2_0 rfl rfl rfl (by decide +kernel) ⟨Nat.le_of_ble_eq_true rfl, Nat.le_of_ble_eq_true rfl⟩) (pv_PV10 hPc hKc hDc (q0 := 0) rfl) rfl rfl hl.1 rfl (lv_room (Nat.le_of_ble_eq_true rfl)) dX10_take_1 ⟨Nat.le_of_ble_eq_true rfl, Nat.le_of_ble_eq_true rfl⟩) hS (fun q _ h => hFc q h) hFc (fun ra1 u t H1 locs ht hvm hwra1 hB hz1 hk1 hS => ?_)
  try rw [hwra1] at hB
  rcases hB with hB | hB
  · skip
    obtain ⟨x2, oa_x2, ob_x2, pt0_ra1, pt1_ra1, pt2_ra1, pt3_ra1, pt4_ra1, pt5_ra1, pt6_ra1, hP1, hK1, hD1⟩ := hB
    rw [ht] at hP1
    obtain ⟨hP2, hD2⟩ := va_join (wr := []) (w1 := (wd_82cdd16b h0 h1 v0 x2 v2 v3 h1 g0 f4)) hP hD [0, 1] [] rfl rfl (by decide) (by decide) hk1 hFc hP1 hD1
    clear hP hD hPc hDc hKc hFc hP1 hK1 hD1 hk1 hz1
    generalize H1 = H at hP2 hS ⊢
    have hP : va_P (dC, dI) vwCl (wd_82cdd16b h0 h1 v0 x2 v2 v3 h1 g0 f4) H := hP2
    have hD : va_D A (wd_82cdd16b h0 h1 v0 x2 v2 v3 h1 g0 f4) := hD2
    clear hP2 hD2
    obtain rfl : ra1 = ((-1) : Int32) := pv_cs (by decide) pt0_ra1 pt1_ra1
    refine lv_iload_n hx hb dX10_take_4 rfl (lv_at hl 1 rfl) ?_
    refine lv_icmp_eq (tgt := 13) hx hb dX10_take_5 (by decide) (fun c => absurd c (by decide)) (fun _ => ?_)
    refine lv_aload_n hx hb dX10_take_8 rfl (lv_at hl 0 rfl) ?_
    have hPc := hP.sub (ws' := (wd_09b0abee h0 h1 v0 x2 v2 v3)) [0] rfl
    have hDc := hD.sub (ws' := (wd_09b0abee h0 h1 v0 x2 v2 v3)) [0] (by decide) rfl
    have hKc := hK.sub (tys' := []) [] rfl
    have hFc := va_free (wc := (wd_09b0abee h0 h1 v0 x2 v2 v3)) hD hS hA [0] rfl
    refine va_calli (va_runV (As := []) (rest := []) ⟨hx, hb, hml, hown, hts⟩ (k_X10_wrongHere l dC dI h0 h1 v0 x2 v2 v3 ⟨i_v0a, i_v0b⟩ ⟨oa_x2, ob_x2⟩ H.size) (cwV 0 hts g_X10_take_2_1 rfl rfl rfl (by decide +kernel) ⟨Nat.le_of_ble_eq_true rfl, Nat.le_of_ble_eq_true rfl⟩) (pv_PV10 hPc hKc hDc (q0 := 0) rfl) rfl rfl hl.1 rfl (lv_room (Nat.le_of_ble_eq_true rfl)) dX10_take_9 ⟨Nat.le_of_ble_eq_true rfl, Nat.le_of_ble_eq_true rfl⟩) hS (fun q _ h => hFc q h) hFc (fun ra3 u t H1 locs ht hvm hwra3 hB hz1 hk1 hS => ?_)
    try rw [hwra3] at hB
    obtain ⟨x4, oa_x4, ob_x4, pt0_ra3, pt1_ra3, pt2_ra3, hP1, hK1, hD1⟩ := hB
    rw [ht] at hP1
    obtain ⟨hP2, hD2⟩ := va_join (wr := (wd_d0032b31 h1 g0 f4)) (w1 := (wd_09b0abee h0 h1 v0 x2 x4 v3)) hP hD [0] [1] rfl rfl (by decide) (by decide) hk1 hFc hP1 hD1
    clear hP hD hPc hDc hKc hFc hP1 hK1 hD1 hk1 hz1
    generalize H1 = H at hP2 hS ⊢
    have hP := hP2.sub (ws' := (wd_82cdd16b h0 h1 v0 x2 x4 v3 h1 g0 f4)) [1, 0] rfl
    have hD := hD2.sub (ws' := (wd_82cdd16b h0 h1 v0 x2 x4 v3 h1 g0 f4)) [1, 0] (by decide) rfl
    clear hP2 hD2
    obtain rfl : ra3 = (0 : Int32) := pv_cs (by decide) pt0_ra3 pt1_ra3
    subst hQ
    have hP9 := hP.sub (ws' := (wd_82cdd16b h0 h1 v0 x2 x4 v3 h1 g0 f4)) [0, 1] rfl
    have hD9 := hD.sub (ws' := (wd_82cdd16b h0 h1 v0 x2 x4 v3 h1 g0 f4)) [0, 1] (by decide) rfl
    have hK9 := hK.sub (tys' := []) [] rfl
    exact W.zret (v := 0) hx hb hr rfl (fun t ht hW => ⟨⟨0, 0, rfl, rfl, Or.inr (⟨x2, x4, oa_x2, ob_x2, oa_x4, ob_x4, by first | omega | decide, by first | omega | decide, by omega, by first | (apply pg_take.ok <;> first | assumption | omega) | (apply pg_take.no <;> first | assumption | omega), by rw [ht]; exact hP9, va_K.moved hW.alike hK9, hD9⟩)⟩, hS.F ht⟩) hS.2.2 dX10_take_12
  · skip
    obtain ⟨x5, oa_x5, ob_x5, pt0_ra1, pt1_ra1, pt2_ra1, pt3_ra1, pt4_ra1, pt5_ra1, pt6_ra1, hP1, hK1, hD1⟩ := hB
    rw [ht] at hP1
    obtain ⟨hP2, hD2⟩ := va_join (wr := []) (w1 := (wd_82cdd16b h0 h1 v0 x5 v2 v3 h1 g0 f4)) hP hD [0, 1] [] rfl rfl (by decide) (by decide) hk1 hFc hP1 hD1
    clear hP hD hPc hDc hKc hFc hP1 hK1 hD1 hk1 hz1
    generalize H1 = H at hP2 hS ⊢
    have hP : va_P (dC, dI) vwCl (wd_82cdd16b h0 h1 v0 x5 v2 v3 h1 g0 f4) H := hP2
    have hD : va_D A (wd_82cdd16b h0 h1 v0 x5 v2 v3 h1 g0 f4) := hD2
    clear hP2 hD2
    refine lv_iload_n hx hb dX10_take_4 rfl (lv_at hl 1 rfl) ?_
    refine lv_icmp_eq (tgt := 13) hx hb dX10_take_5 (by decide) (fun c6 => ?_) (fun c6 => ?_)
    · skip
      have fc6 : ra1.toInt = 93 := congrArg Int32.toInt c6
      refine lv_aload_n hx hb dX10_take_13 rfl (lv_at hl 0 rfl) ?_
      refine lv_dup hx hb dX10_take_14 rfl ?_
      refine va_get (D := (dC, dI)) (ci := 10) (v := .int x5) (C := RX10) (T := TX10) (N := 5) hx hb hts (fun _ h => List.mem_cons_of_mem _ (List.mem_append_right _ h)) hown hK hP 0 rfl rfl 2 (by decide) (hts (.fieldLink RX10 19 "LeftArguments$Tape" "at" "I") (List.mem_cons_of_mem _ (List.mem_append_left _ (List.mem_of_getElem? (i := 1) rfl)))) (fun _ h9 => h9) rfl dX10_take_15 ?_
      refine lv_iconst (v := 1) hx hb dX10_take_18 (by decide) ?_
      refine lv_iadd hx hb dX10_take_19 ?_
      refine lv_topi (fun t7 et7 => ?_)
      have gt7 : t7.toInt = x5.toInt + 1 := pv_add (a := x5.toInt) (b := 1) et7 rfl (by decide) (by omega) (by omega)
      refine va_put (D := (dC, dI)) (ci := 10) (v := .int t7) (ty := .int) (C := RX10) (T := TX10) (N := 5) hx hb hts (fun _ h => List.mem_cons_of_mem _ (List.mem_append_right _ h)) tyX10 tyX10_ok nmX10 hown hK hP hD hS 0 rfl rfl 2 (by decide) (hts (.fieldLink RX10 19 "LeftArguments$Tape" "at" "I") (List.mem_cons_of_mem _ (List.mem_append_left _ (List.mem_of_getElem? (i := 1) rfl)))) (fun _ h9 => h9) rfl (by decide +kernel) rfl rfl (Nat.le_of_ble_eq_true rfl) dX10_take_20 (fun H locs hP hD hS => ?_)
      have hP : va_P (dC, dI) vwCl (wd_82cdd16b h0 h1 v0 t7 v2 v3 h1 g0 f4) H := hP
      have hD : va_D A (wd_82cdd16b h0 h1 v0 t7 v2 v3 h1 g0 f4) := hD
      refine lv_iconst (v := 1) hx hb dX10_take_23 (by decide) ?_
      subst hQ
      have hP9 := hP.sub (ws' := (wd_82cdd16b h0 h1 v0 t7 v2 v3 h1 g0 f4)) [0, 1] rfl
      have hD9 := hD.sub (ws' := (wd_82cdd16b h0 h1 v0 t7 v2 v3 h1 g0 f4)) [0, 1] (by decide) rfl
      have hK9 := hK.sub (tys' := []) [] rfl
      exact W.zret (v := 1) hx hb hr rfl (fun t ht hW => ⟨⟨1, 1, rfl, rfl, Or.inl ⟨t7, by first | omega | decide, by first | omega | decide, by first | omega | decide, by first | omega | decide, by omega, by first | (apply pg_take.ok <;> first | assumption | omega) | (apply pg_take.no <;> first | assumption | omega), by rw [ht]; exact hP9, va_K.moved hW.alike hK9, hD9⟩⟩, hS.F ht⟩) hS.2.2 dX10_take_24
    · skip
      have fc6 : ¬ (ra1.toInt = 93) := fun h9 => c6 (Int32.toInt_inj.mp h9)
      refine lv_aload_n hx hb dX10_take_8 rfl (lv_at hl 0 rfl) ?_
      have hPc := hP.sub (ws' := (wd_09b0abee h0 h1 v0 x5 v2 v3)) [0] rfl
      have hDc := hD.sub (ws' := (wd_09b0abee h0 h1 v0 x5 v2 v3)) [0] (by decide) rfl
      have hKc := hK.sub (tys' := []) [] rfl
      have hFc := va_free (wc := (wd_09b0abee h0 h1 v0 x5 v2 v3)) hD hS hA [0] rfl
      refine va_calli (va_runV (As := []) (rest := []) ⟨hx, hb, hml, hown, hts⟩ (k_X10_wrongHere l dC dI h0 h1 v0 x5 v2 v3 ⟨i_v0a, i_v0b⟩ ⟨oa_x5, by first | omega | decide⟩ H.size) (cwV 0 hts g_X10_take_2_1 rfl rfl rfl (by decide +kernel) ⟨Nat.le_of_ble_eq_true rfl, Nat.le_of_ble_eq_true rfl⟩) (pv_PV10 hPc hKc hDc (q0 := 0) rfl) rfl rfl hl.1 rfl (lv_room (Nat.le_of_ble_eq_true rfl)) dX10_take_9 ⟨Nat.le_of_ble_eq_true rfl, Nat.le_of_ble_eq_true rfl⟩) hS (fun q _ h => hFc q h) hFc (fun ra8 u t H1 locs ht hvm hwra8 hB hz1 hk1 hS => ?_)
      try rw [hwra8] at hB
      obtain ⟨x9, oa_x9, ob_x9, pt0_ra8, pt1_ra8, pt2_ra8, hP1, hK1, hD1⟩ := hB
      rw [ht] at hP1
      obtain ⟨hP2, hD2⟩ := va_join (wr := (wd_d0032b31 h1 g0 f4)) (w1 := (wd_09b0abee h0 h1 v0 x5 x9 v3)) hP hD [0] [1] rfl rfl (by decide) (by decide) hk1 hFc hP1 hD1
      clear hP hD hPc hDc hKc hFc hP1 hK1 hD1 hk1 hz1
      generalize H1 = H at hP2 hS ⊢
      have hP := hP2.sub (ws' := (wd_82cdd16b h0 h1 v0 x5 x9 v3 h1 g0 f4)) [1, 0] rfl
      have hD := hD2.sub (ws' := (wd_82cdd16b h0 h1 v0 x5 x9 v3 h1 g0 f4)) [1, 0] (by decide) rfl
      clear hP2 hD2
      obtain rfl : ra8 = (0 : Int32) := pv_cs (by decide) pt0_ra8 pt1_ra8
      subst hQ
      have hP9 := hP.sub (ws' := (wd_82cdd16b h0 h1 v0 x5 x9 v3 h1 g0 f4)) [0, 1] rfl
      have hD9 := hD.sub (ws' := (wd_82cdd16b h0 h1 v0 x5 x9 v3 h1 g0 f4)) [0, 1] (by decide) rfl
      have hK9 := hK.sub (tys' := []) [] rfl
      exact W.zret (v := 0) hx hb hr rfl (fun t ht hW => ⟨⟨0, 0, rfl, rfl, Or.inr (⟨x5, x9, oa_x5, by first | omega | decide, oa_x9, ob_x9, by first | omega | decide, by first | omega | decide, by omega, by first | (apply pg_take.ok <;> first | assumption | omega) | (apply pg_take.no <;> first | assumption | omega), by rw [ht]; exact hP9, va_K.moved hW.alike hK9, hD9⟩)⟩, hS.F ht⟩) hS.2.2 dX10_take_12
def q_X3_readAtom_1 : List Cond := .code yX3_readAtom cX3_readAtom 4 (some .boolean) :: (([.fieldLink RX3 19 "LeftArguments$LawReader" "tape" "LLeftArguments$Tape;", .code yX10_next cX10_next 1 (some .int), .fieldLink RX10 19 "LeftArguments$Tape" "at" "I", .fieldLink RX10 15 "LeftArguments$Tape" "used" "I", .fieldLink RX10 9 "LeftArguments$Tape" "bytes" "[I", .initialized RX10, .instanceMethod yX10_next, .selects RX10 yX10_next yX10_next, .methodLink RX3 48 yX10_next, .code yX10_isDigit cX10_isDigit 1 (some .boolean), .static yX10_isDigit, .methodLink RX3 92 yX10_isDigit, .code yX10_wrongHere cX10_wrongHere 1 (some .boolean), .fieldLink RX10 22 "LeftArguments$Tape" "wrongAt" "I", .instanceMethod yX10_wrongHere, .selects RX10 yX10_wrongHere yX10_wrongHere, .methodLink RX3 83 yX10_wrongHere, .code yJ0_indexOf_0f7a4 cJ0_indexOf_0f7a4 2 (some .int), .code yJ0_indexOf_7cf53 cJ0_indexOf_7cf53 3 (some .int), .code yJ0_isLatin1_aae02 cJ0_isLatin1_aae02 1 (some .boolean), .fieldLink RJ0 38 "java/lang/String" "COMPACT_STRINGS" "Z", .fieldLink RJ0 15 "java/lang/String" "coder" "B", .initialized RJ0, .instanceMethod yJ0_isLatin1_aae02, .selects RJ0 yJ0_isLatin1_aae02 yJ0_isLatin1_aae02, .methodLink RJ0 492 yJ0_isLatin1_aae02, .fieldLink RJ0 9 "java/lang/String" "value" "[B", .code yJ0_length_8abf5 cJ0_length_8abf5 1 (some .int), .code yJ0_coder_7d493 cJ0_coder_7d493 1 (some .byte), .instanceMethod yJ0_coder_7d493, .selects RJ0 yJ0_coder_7d493 yJ0_coder_7d493, .methodLink RJ0 335 yJ0_coder_7d493, .instanceMethod yJ0_length_8abf5, .selects RJ0 yJ0_length_8abf5 yJ0_length_8abf5, .methodLink RJ0 505 yJ0_length_8abf5, .code yJ1_indexOf_4cfef cJ1_indexOf_4cfef 4 (some .int), .code yJ1_canEncode_9a6ad cJ1_canEncode_9a6ad 1 (some .boolean), .initialized RJ1, .static yJ1_canEncode_9a6ad, .methodLink RJ1 88 yJ1_canEncode_9a6ad, .methodLink RJ1 92 Lib.Math.max.name, .static Lib.Math.max.name, .initialized "java/lang/Math", .code Lib.Math.max.name Lib.Math.max.code 2 (some .int), .methodLink RJ1 38 Lib.Math.min.name, .static Lib.Math.min.name, .code Lib.Math.min.name Lib.Math.min.code 2 (some .int), .code yJ1_indexOfChar_4cfef cJ1_indexOfChar_4cfef 6 (some .int), .static yJ1_indexOfChar_4cfef, .methodLink RJ1 95 yJ1_indexOfChar_4cfef, .static yJ1_indexOf_4cfef, .methodLink RJ0 637 yJ1_indexOf_4cfef, .instanceMethod yJ0_indexOf_7cf53, .selects RJ0 yJ0_indexOf_7cf53 yJ0_indexOf_7cf53, .methodLink RJ0 633 yJ0_indexOf_7cf53, .instanceMethod yJ0_indexOf_0f7a4, .selects RJ0 yJ0_indexOf_0f7a4 yJ0_indexOf_0f7a4, .methodLink RX3 103 yJ0_indexOf_0f7a4, .code yX10_step cX10_step 1 none, .instanceMethod yX10_step, .selects RX10 yX10_step yX10_step, .methodLink RX3 77 yX10_step, .code yX3_write cX3_write 3 none, .fieldLink RX3 15 "LeftArguments$LawReader" "used" "I", .fieldLink RX3 11 "LeftArguments$LawReader" "code" "[I", .initialized RX3, .instanceMethod yX3_write, .selects RX3 yX3_write yX3_write, .methodLink RX3 66 yX3_write, .code yX10_takeNumber cX10_takeNumber 3 (some .boolean), .methodLink RX10 37 yX10_next, .methodLink RX10 45 yX10_isDigit, .methodLink RX10 41 yX10_wrongHere, .fieldLink RX10 25 "LeftArguments$Tape" "number" "I", .code yX10_sign cX10_sign 1 (some .int), .instanceMethod yX10_sign, .selects RX10 yX10_sign yX10_sign, .methodLink RX10 49 yX10_sign, .instanceMethod yX10_takeNumber, .selects RX10 yX10_takeNumber yX10_takeNumber, .methodLink RX3 95 yX10_takeNumber, .code yX10_number cX10_number 1 (some .int), .instanceMethod yX10_number, .selects RX10 yX10_number yX10_number, .methodLink RX3 98 yX10_number, .code yX3_readSum cX3_readSum 4 (some .boolean), .code yX3_readTerm cX3_readTerm 4 (some .boolean), .code yX3_readAtom cX3_readAtom 4 (some .boolean), .instanceMethod yX3_readAtom, .selects RX3 yX3_readAtom yX3_readAtom, .methodLink RX3 89 yX3_readAtom, .instanceMethod yX3_readTerm, .selects RX3 yX3_readTerm yX3_readTerm, .methodLink RX3 86 yX3_readTerm, .instanceMethod yX3_readSum, .selects RX3 yX3_readSum yX3_readSum, .methodLink RX3 59 yX3_readSum, .code yX10_take cX10_take 2 (some .boolean), .instanceMethod yX10_take, .selects RX10 yX10_take yX10_take, .methodLink RX3 51 yX10_take] : List Cond) ++ wsX30 ++ wsX100)
set_option maxRecDepth 20000 in
theorem g_X3_readAtom_1_0 : GoodIn q_X3_readAtom_1 (wsV RX3 48 RX10 yX10_next q_X10_next) := goodIn_app (goodIn_r _ [9, 7, 8, 6] rfl (by decide +kernel)) (goodIn_ca (goodIn_r (.code yX10_next cX10_next 1 (some .int) :: [.fieldLink RX10 19 "LeftArguments$Tape" "at" "I", .fieldLink RX10 15 "LeftArguments$Tape" "used" "I", .fieldLink RX10 9 "LeftArguments$Tape" "bytes" "[I"]) [2, 3, 4, 5] rfl (by decide +kernel)) (goodIn_sub (fun _ h => List.mem_cons_of_mem _ (List.mem_append_right _ h)) gwX10))
set_option maxRecDepth 20000 in
theorem g_X3_readAtom_1_1 : GoodIn q_X3_readAtom_1 (va_wsS RX3 92 yX10_isDigit q_X10_isDigit) := goodIn_app (goodIn_r _ [12, 11, 6] rfl (by decide +kernel)) (goodIn_r (.code yX10_isDigit cX10_isDigit 1 (some .boolean) :: []) [10] rfl (by decide +kernel))
set_option maxRecDepth 20000 in
theorem g_X3_readAtom_1_2 : GoodIn q_X3_readAtom_1 (wsV RX3 83 RX10 yX10_wrongHere q_X10_wrongHere) := goodIn_app (goodIn_r _ [17, 15, 16, 6] rfl (by decide +kernel)) (goodIn_ca (goodIn_r (.code yX10_wrongHere cX10_wrongHere 1 (some .boolean) :: [.fieldLink RX10 19 "LeftArguments$Tape" "at" "I", .fieldLink RX10 22 "LeftArguments$Tape" "wrongAt" "I"]) [13, 3, 14] rfl (by decide +kernel)) (goodIn_sub (fun _ h => List.mem_cons_of_mem _ (List.mem_append_right _ h)) gwX10))
set_option maxRecDepth 20000 in
theorem g_X3_readAtom_1_4 : GoodIn q_X3_readAtom_1 (wsV RX3 103 RJ0 yJ0_indexOf_0f7a4 q_J0_indexOf_0f7a4) := goodIn_app (goodIn_r _ [58, 56, 57, 23] rfl (by decide +kernel)) (goodIn_r (.code yJ0_indexOf_0f7a4 cJ0_indexOf_0f7a4 2 (some .int) :: [.code yJ0_indexOf_7cf53 cJ0_indexOf_7cf53 3 (some .int), .code yJ0_isLatin1_aae02 cJ0_isLatin1_aae02 1 (some .boolean), .fieldLink RJ0 38 "java/lang/String" "COMPACT_STRINGS" "Z", .fieldLink RJ0 15 "java/lang/String" "coder" "B", .initialized RJ0, .instanceMethod yJ0_isLatin1_aae02, .selects RJ0 yJ0_isLatin1_aae02 yJ0_isLatin1_aae02, .methodLink RJ0 492 yJ0_isLatin1_aae02, .fieldLink RJ0 9 "java/lang/String" "value" "[B", .code yJ0_length_8abf5 cJ0_length_8abf5 1 (some .int), .code yJ0_coder_7d493 cJ0_coder_7d493 1 (some .byte), .instanceMethod yJ0_coder_7d493, .selects RJ0 yJ0_coder_7d493 yJ0_coder_7d493, .methodLink RJ0 335 yJ0_coder_7d493, .instanceMethod yJ0_length_8abf5, .selects RJ0 yJ0_length_8abf5 yJ0_length_8abf5, .methodLink RJ0 505 yJ0_length_8abf5, .code yJ1_indexOf_4cfef cJ1_indexOf_4cfef 4 (some .int), .code yJ1_canEncode_9a6ad cJ1_canEncode_9a6ad 1 (some .boolean), .initialized RJ1, .static yJ1_canEncode_9a6ad, .methodLink RJ1 88 yJ1_canEncode_9a6ad, .methodLink RJ1 92 Lib.Math.max.name, .static Lib.Math.max.name, .initialized "java/lang/Math", .code Lib.Math.max.name Lib.Math.max.code 2 (some .int), .methodLink RJ1 38 Lib.Math.min.name, .static Lib.Math.min.name, .code Lib.Math.min.name Lib.Math.min.code 2 (some .int), .code yJ1_indexOfChar_4cfef cJ1_indexOfChar_4cfef 6 (some .int), .static yJ1_indexOfChar_4cfef, .methodLink RJ1 95 yJ1_indexOfChar_4cfef, .static yJ1_indexOf_4cfef, .methodLink RJ0 637 yJ1_indexOf_4cfef, .instanceMethod yJ0_indexOf_7cf53, .selects RJ0 yJ0_indexOf_7cf53 yJ0_indexOf_7cf53, .methodLink RJ0 633 yJ0_indexOf_7cf53]) [18, 19, 20, 21, 22, 23, 24, 25, 26, 27, 28, 29, 30, 31, 32, 33, 34, 35, 36, 37, 38, 39, 40, 41, 42, 43, 44, 45, 46, 47, 48, 49, 50, 51, 52, 53, 54, 55] rfl (by decide +kernel))
set_option maxRecDepth 20000 in
theorem g_X3_readAtom_1_5 : GoodIn q_X3_readAtom_1 (wsV RX3 77 RX10 yX10_step q_X10_step) := goodIn_app (goodIn_r _ [62, 60, 61, 6] rfl (by decide +kernel)) (goodIn_ca (goodIn_r (.code yX10_step cX10_step 1 none :: [.fieldLink RX10 19 "LeftArguments$Tape" "at" "I"]) [59, 3] rfl (by decide +kernel)) (goodIn_sub (fun _ h => List.mem_cons_of_mem _ (List.mem_append_right _ h)) gwX10))
set_option maxRecDepth 20000 in
theorem g_X3_readAtom_1_6 : GoodIn q_X3_readAtom_1 (wsV RX3 66 RX3 yX3_write q_X3_write) := goodIn_app (goodIn_r _ [69, 67, 68, 66] rfl (by decide +kernel)) (goodIn_ca (goodIn_r (.code yX3_write cX3_write 3 none :: [.fieldLink RX3 15 "LeftArguments$LawReader" "used" "I", .fieldLink RX3 11 "LeftArguments$LawReader" "code" "[I"]) [63, 64, 65] rfl (by decide +kernel)) (goodIn_sub (fun _ h => List.mem_cons_of_mem _ (List.mem_append_left _ (List.mem_append_right _ h))) gwX3))
set_option maxRecDepth 20000 in
theorem g_X3_readAtom_1_8 : GoodIn q_X3_readAtom_1 (wsV RX3 95 RX10 yX10_takeNumber q_X10_takeNumber) := goodIn_app (goodIn_r _ [81, 79, 80, 6] rfl (by decide +kernel)) (goodIn_ca (goodIn_r (.code yX10_takeNumber cX10_takeNumber 3 (some .boolean) :: [.code yX10_next cX10_next 1 (some .int), .fieldLink RX10 19 "LeftArguments$Tape" "at" "I", .fieldLink RX10 15 "LeftArguments$Tape" "used" "I", .fieldLink RX10 9 "LeftArguments$Tape" "bytes" "[I", .initialized RX10, .instanceMethod yX10_next, .selects RX10 yX10_next yX10_next, .methodLink RX10 37 yX10_next, .code yX10_isDigit cX10_isDigit 1 (some .boolean), .static yX10_isDigit, .methodLink RX10 45 yX10_isDigit, .code yX10_wrongHere cX10_wrongHere 1 (some .boolean), .fieldLink RX10 22 "LeftArguments$Tape" "wrongAt" "I", .instanceMethod yX10_wrongHere, .selects RX10 yX10_wrongHere yX10_wrongHere, .methodLink RX10 41 yX10_wrongHere, .fieldLink RX10 25 "LeftArguments$Tape" "number" "I", .code yX10_sign cX10_sign 1 (some .int), .instanceMethod yX10_sign, .selects RX10 yX10_sign yX10_sign, .methodLink RX10 49 yX10_sign]) [70, 2, 3, 4, 5, 6, 7, 8, 71, 10, 11, 72, 13, 14, 15, 16, 73, 74, 75, 76, 77, 78] rfl (by decide +kernel)) (goodIn_sub (fun _ h => List.mem_cons_of_mem _ (List.mem_append_right _ h)) gwX10))
set_option maxRecDepth 20000 in
theorem g_X3_readAtom_1_9 : GoodIn q_X3_readAtom_1 (wsV RX3 98 RX10 yX10_number q_X10_number) := goodIn_app (goodIn_r _ [85, 83, 84, 6] rfl (by decide +kernel)) (goodIn_ca (goodIn_r (.code yX10_number cX10_number 1 (some .int) :: [.fieldLink RX10 25 "LeftArguments$Tape" "number" "I"]) [82, 74] rfl (by decide +kernel)) (goodIn_sub (fun _ h => List.mem_cons_of_mem _ (List.mem_append_right _ h)) gwX10))
set_option maxRecDepth 20000 in
theorem g_X3_readAtom_1_12 : GoodIn q_X3_readAtom_1 (wsV RX3 59 RX3 yX3_readSum q_X3_readSum) := goodIn_app (goodIn_r _ [97, 95, 96, 66] rfl (by decide +kernel)) (goodIn_ca (goodIn_ca (goodIn_r (.code yX3_readSum cX3_readSum 4 (some .boolean) :: [.code yX3_readTerm cX3_readTerm 4 (some .boolean), .code yX3_readAtom cX3_readAtom 4 (some .boolean), .fieldLink RX3 19 "LeftArguments$LawReader" "tape" "LLeftArguments$Tape;", .code yX10_next cX10_next 1 (some .int), .fieldLink RX10 19 "LeftArguments$Tape" "at" "I", .fieldLink RX10 15 "LeftArguments$Tape" "used" "I", .fieldLink RX10 9 "LeftArguments$Tape" "bytes" "[I", .initialized RX10, .instanceMethod yX10_next, .selects RX10 yX10_next yX10_next, .methodLink RX3 48 yX10_next, .code yX10_isDigit cX10_isDigit 1 (some .boolean), .static yX10_isDigit, .methodLink RX3 92 yX10_isDigit, .code yX10_wrongHere cX10_wrongHere 1 (some .boolean), .fieldLink RX10 22 "LeftArguments$Tape" "wrongAt" "I", .instanceMethod yX10_wrongHere, .selects RX10 yX10_wrongHere yX10_wrongHere, .methodLink RX3 83 yX10_wrongHere, .code yJ0_indexOf_0f7a4 cJ0_indexOf_0f7a4 2 (some .int), .code yJ0_indexOf_7cf53 cJ0_indexOf_7cf53 3 (some .int), .code yJ0_isLatin1_aae02 cJ0_isLatin1_aae02 1 (some .boolean), .fieldLink RJ0 38 "java/lang/String" "COMPACT_STRINGS" "Z", .fieldLink RJ0 15 "java/lang/String" "coder" "B", .initialized RJ0, .instanceMethod yJ0_isLatin1_aae02, .selects RJ0 yJ0_isLatin1_aae02 yJ0_isLatin1_aae02, .methodLink RJ0 492 yJ0_isLatin1_aae02, .fieldLink RJ0 9 "java/lang/String" "value" "[B", .code yJ0_length_8abf5 cJ0_length_8abf5 1 (some .int), .code yJ0_coder_7d493 cJ0_coder_7d493 1 (some .byte), .instanceMethod yJ0_coder_7d493, .selects RJ0 yJ0_coder_7d493 yJ0_coder_7d493, .methodLink RJ0 335 yJ0_coder_7d493, .instanceMethod yJ0_length_8abf5, .selects RJ0 yJ0_length_8abf5 yJ0_length_8abf5, .methodLink RJ0 505 yJ0_length_8abf5, .code yJ1_indexOf_4cfef cJ1_indexOf_4cfef 4 (some .int), .code yJ1_canEncode_9a6ad cJ1_canEncode_9a6ad 1 (some .boolean), .initialized RJ1, .static yJ1_canEncode_9a6ad, .methodLink RJ1 88 yJ1_canEncode_9a6ad, .methodLink RJ1 92 Lib.Math.max.name, .static Lib.Math.max.name, .initialized "java/lang/Math", .code Lib.Math.max.name Lib.Math.max.code 2 (some .int), .methodLink RJ1 38 Lib.Math.min.name, .static Lib.Math.min.name, .code Lib.Math.min.name Lib.Math.min.code 2 (some .int), .code yJ1_indexOfChar_4cfef cJ1_indexOfChar_4cfef 6 (some .int), .static yJ1_indexOfChar_4cfef, .methodLink RJ1 95 yJ1_indexOfChar_4cfef, .static yJ1_indexOf_4cfef, .methodLink RJ0 637 yJ1_indexOf_4cfef, .instanceMethod yJ0_indexOf_7cf53, .selects RJ0 yJ0_indexOf_7cf53 yJ0_indexOf_7cf53, .methodLink RJ0 633 yJ0_indexOf_7cf53, .instanceMethod yJ0_indexOf_0f7a4, .selects RJ0 yJ0_indexOf_0f7a4 yJ0_indexOf_0f7a4, .methodLink RX3 103 yJ0_indexOf_0f7a4, .code yX10_step cX10_step 1 none, .instanceMethod yX10_step, .selects RX10 yX10_step yX10_step, .methodLink RX3 77 yX10_step, .code yX3_write cX3_write 3 none, .fieldLink RX3 15 "LeftArguments$LawReader" "used" "I", .fieldLink RX3 11 "LeftArguments$LawReader" "code" "[I", .initialized RX3, .instanceMethod yX3_write, .selects RX3 yX3_write yX3_write, .methodLink RX3 66 yX3_write, .code yX10_takeNumber cX10_takeNumber 3 (some .boolean), .methodLink RX10 37 yX10_next, .methodLink RX10 45 yX10_isDigit, .methodLink RX10 41 yX10_wrongHere, .fieldLink RX10 25 "LeftArguments$Tape" "number" "I", .code yX10_sign cX10_sign 1 (some .int), .instanceMethod yX10_sign, .selects RX10 yX10_sign yX10_sign, .methodLink RX10 49 yX10_sign, .instanceMethod yX10_takeNumber, .selects RX10 yX10_takeNumber yX10_takeNumber, .methodLink RX3 95 yX10_takeNumber, .code yX10_number cX10_number 1 (some .int), .instanceMethod yX10_number, .selects RX10 yX10_number yX10_number, .methodLink RX3 98 yX10_number, .instanceMethod yX3_readAtom, .selects RX3 yX3_readAtom yX3_readAtom, .methodLink RX3 89 yX3_readAtom, .instanceMethod yX3_readTerm, .selects RX3 yX3_readTerm yX3_readTerm, .methodLink RX3 86 yX3_readTerm]) [86, 87, 88, 1, 2, 3, 4, 5, 6, 7, 8, 9, 10, 11, 12, 13, 14, 15, 16, 17, 18, 19, 20, 21, 22, 23, 24, 25, 26, 27, 28, 29, 30, 31, 32, 33, 34, 35, 36, 37, 38, 39, 40, 41, 42, 43, 44, 45, 46, 47, 48, 49, 50, 51, 52, 53, 54, 55, 56, 57, 58, 59, 60, 61, 62, 63, 64, 65, 66, 67, 68, 69, 70, 71, 72, 73, 74, 75, 76, 77, 78, 79, 80, 81, 82, 83, 84, 85, 89, 90, 91, 92, 93, 94] rfl (by decide +kernel)) (goodIn_sub (fun _ h => List.mem_cons_of_mem _ (List.mem_append_left _ (List.mem_append_right _ h))) gwX3)) (goodIn_sub (fun _ h => List.mem_cons_of_mem _ (List.mem_append_right _ h)) gwX10))
set_option maxRecDepth 20000 in
theorem g_X3_readAtom_1_13 : GoodIn q_X3_readAtom_1 (wsV RX3 51 RX10 yX10_take q_X10_take_2) := goodIn_app (goodIn_r _ [101, 99, 100, 6] rfl (by decide +kernel)) (goodIn_ca (goodIn_r (.code yX10_take cX10_take 2 (some .boolean) :: [.code yX10_next cX10_next 1 (some .int), .fieldLink RX10 19 "LeftArguments$Tape" "at" "I", .fieldLink RX10 15 "LeftArguments$Tape" "used" "I", .fieldLink RX10 9 "LeftArguments$Tape" "bytes" "[I", .initialized RX10, .instanceMethod yX10_next, .selects RX10 yX10_next yX10_next, .methodLink RX10 37 yX10_next, .code yX10_wrongHere cX10_wrongHere 1 (some .boolean), .fieldLink RX10 22 "LeftArguments$Tape" "wrongAt" "I", .instanceMethod yX10_wrongHere, .selects RX10 yX10_wrongHere yX10_wrongHere, .methodLink RX10 41 yX10_wrongHere]) [98, 2, 3, 4, 5, 6, 7, 8, 71, 13, 14, 15, 16, 73] rfl (by decide +kernel)) (goodIn_sub (fun _ h => List.mem_cons_of_mem _ (List.mem_append_right _ h)) gwX10))
set_option maxHeartbeats 4000000 in
set_option maxRecDepth 100000 in
theorem k_X3_readAtom_1 (l : Launch) (dC : Nat → ClassId) (dI : Nat → Nat → Nat) (adK : Nat → Nat) (adV : Nat → Nat) (h0 : Nat) (h1 : Nat) (h2 : Nat) (h3 : Nat) (v0 : Int32) (v1 : Int32) (v2 : Int32) (v3 : Int32) (v4 : Int32) (g0 : ClassId) (f5 : Nat → Int32) (g1 : ClassId) (f6 : Nat → Int32) (i_v0 : 0 ≤ v0.toInt ∧ v0.toInt ≤ 256) (i_v1 : 0 ≤ v1.toInt ∧ v1.toInt ≤ 240) (i_v2 : 0 ≤ v2.toInt ∧ v2.toInt ≤ 240) (ia_f5 : (∀ j, 0 ≤ (f5 j).toInt ∧ (f5 j).toInt ≤ 255)) (sz : Nat) : Met l yX3_readAtom q_X3_readAtom_1 ({ frames := 7, cells := 0, slots := 0, locals := 160 }) (va_Pc [.ref h0, .int 5] (fun U => U.heap.size = sz ∧ va_P (dC, dI) vwCl (wd_1ad0248d h0 h1 h3 v0 h1 h2 v1 v2 v3 v4 h2 g0 f5 h3 g1 f6) U.heap ∧ va_K (dC, dI) vwCl [(g0, .int), (g1, .int)] U ∧ va_D (fun _ => True) (wd_1ad0248d h0 h1 h3 v0 h1 h2 v1 v2 v3 v4 h2 g0 f5 h3 g1 f6) ∧ vk_R RX3 101 "zaondt" (adK 2) U ∧ va_Z "java/lang/String" "COMPACT_STRINGS" "Z" (.int 1) (va_A (wd_1ad0248d h0 h1 h3 v0 h1 h2 v1 v2 v3 v4 h2 g0 f5 h3 g1 f6) sz) U U.heap ∧ vk_S 3 pv_len3 pv_byt3 adK adV (va_A (wd_1ad0248d h0 h1 h3 v0 h1 h2 v1 v2 v3 v4 h2 g0 f5 h3 g1 f6) sz) U U.heap)) (va_Qi (fun (r : Int32) (r9 : Int32) => r9 = r) (fun (r : Int32) (t : State) => (∃ (o_h0_2 : Int32) (o_h1_2 : Int32) (o_h1_4 : Int32) (o_h3 : Nat → Int32), 0 ≤ o_h0_2.toInt ∧ o_h0_2.toInt ≤ 256 ∧ 0 ≤ o_h1_2.toInt ∧ o_h1_2.toInt ≤ 240 ∧ (1 ≤ r.toInt) ∧ (r.toInt ≤ 1) ∧ (v2.toInt ≤ o_h1_2.toInt) ∧ (pg_atom f5 v1.toInt 1 v2.toInt = (true, o_h1_2.toInt)) ∧ va_P (dC, dI) vwCl (wd_1ad0248d h0 h1 h3 o_h0_2 h1 h2 v1 o_h1_2 v3 o_h1_4 h2 g0 f5 h3 g1 o_h3) t.heap ∧ va_K (dC, dI) vwCl [] t ∧ va_D (va_A (wd_1ad0248d h0 h1 h3 v0 h1 h2 v1 v2 v3 v4 h2 g0 f5 h3 g1 f6) sz) (wd_1ad0248d h0 h1 h3 o_h0_2 h1 h2 v1 o_h1_2 v3 o_h1_4 h2 g0 f5 h3 g1 o_h3)) ∨ (∃ (o_h0_2 : Int32) (o_h1_2 : Int32) (o_h1_3 : Int32) (o_h1_4 : Int32) (o_h3 : Nat → Int32), 0 ≤ o_h0_2.toInt ∧ o_h0_2.toInt ≤ 256 ∧ 0 ≤ o_h1_2.toInt ∧ o_h1_2.toInt ≤ 240 ∧ 0 ≤ o_h1_3.toInt ∧ o_h1_3.toInt ≤ 240 ∧ (0 ≤ r.toInt) ∧ (r.toInt ≤ 0) ∧ (v2.toInt ≤ o_h1_2.toInt) ∧ (pg_atom f5 v1.toInt 1 v2.toInt = (false, o_h1_3.toInt)) ∧ va_P (dC, dI) vwCl (wd_1ad0248d h0 h1 h3 o_h0_2 h1 h2 v1 o_h1_2 o_h1_3 o_h1_4 h2 g0 f5 h3 g1 o_h3) t.heap ∧ va_K (dC, dI) vwCl [] t ∧ va_D (va_A (wd_1ad0248d h0 h1 h3 v0 h1 h2 v1 v2 v3 v4 h2 g0 f5 h3 g1 f6) sz) (wd_1ad0248d h0 h1 h3 o_h0_2 h1 h2 v1 o_h1_2 o_h1_3 o_h1_4 h2 g0 f5 h3 g1 o_h3))) (va_A (wd_1ad0248d h0 h1 h3 v0 h1 h2 v1 v2 v3 v4 h2 g0 f5 h3 g1 f6) sz)) 0 0 (va_A (wd_1ad0248d h0 h1 h3 v0 h1 h2 v1 v2 v3 v4 h2 g0 f5 h3 g1 f6) sz) := by
  refine Met.ofW (cc := cX3_readAtom) (maxL := 4) (ret := (some .boolean)) (by decide) rfl ?_
  intro p e s m args below meth c s₁ B hml hv
  obtain ⟨i_v0a, i_v0b⟩ := i_v0
  obtain ⟨i_v1a, i_v1b⟩ := i_v1
  obtain ⟨i_v2a, i_v2b⟩ := i_v2
  obtain ⟨rfl, hsz, hP, hK, hD0, h_vr_2, h_st_CS, h_st_S⟩ := hv
  have hx := B.exec
  have hb := B.bytes
  have hr := B.returns
  have hts := atoms_spec (ws := q_X3_readAtom_1) B.pre
  have hown : s.vm.findClass RX3 = some m.cls := findClass_of_methodNamed B.named
  have hlocks := B.notSynchronized
  subst hsz
  have hD := hD0.self (sz := s.heap.size)
  generalize hAe : va_A (wd_1ad0248d h0 h1 h3 v0 h1 h2 v1 v2 v3 v4 h2 g0 f5 h3 g1 f6) s.heap.size = A at hD h_st_CS h_st_S ⊢
  have hA : ∀ q : Nat, s.heap.size ≤ q → A q := fun q h => by rw [← hAe]; exact Or.inr h
  have hS : va_S A s.heap s.heap [] := va_S.rf
  generalize hQ : (MQ below _ _ s 0 0 A) = Q
  have hl := lv_entry ([.ref h0, .int 5]) (n := 4) (Nat.le_of_ble_eq_true rfl)
  rw [lg_entry_eq]
  generalize (lg_sl ([.ref h0, .int 5]) ++ List.replicate (4 - (lg_sl ([.ref h0, .int 5])).length) Slot.unset).toArray = ls at hl ⊢
  have hl : lv_has ls 4 [(0, .ref h0), (1, .int 5)] := hl
  obtain ⟨H, hH⟩ : ∃ H : Heap, H = s.heap := ⟨_, rfl⟩
  obtain ⟨locs, hlocs⟩ : ∃ y : List Loc, y = [] := ⟨_, rfl⟩
  have hS : va_S A s.heap H locs := by rw [hH, hlocs]; exact va_S.rf
  have hP : va_P (dC, dI) vwCl (wd_1ad0248d h0 h1 h3 v0 h1 h2 v1 v2 v3 v4 h2 g0 f5 h3 g1 f6) H := by rw [hH]; exact hP
  rw [← hH, ← hlocs]
  refine lv_aload_n hx hb dX3_readAtom_0 rfl (lv_at hl 0 rfl) ?_
  refine va_get (D := (dC, dI)) (ci := 3) (v := .ref h1) (C := RX3) (T := TX3) (N := 3) hx hb hts (fun _ h => List.mem_cons_of_mem _ (List.mem_append_left _ (List.mem_append_right _ h))) hown hK hP 0 rfl rfl 0 (by decide) (hts (.fieldLink RX3 19 "LeftArguments$LawReader" "tape" "LLeftArguments$Tape;") (List.mem_cons_of_mem _ (List.mem_append_left _ (List.mem_append_left _ (List.mem_of_getElem? (i := 0) rfl))))) (fun _ h9 => h9) rfl dX3_readAtom_1 ?_
  have hPc := hP.sub (ws' := (wd_82cdd16b h1 h2 v1 v2 v3 v4 h2 g0 f5)) [1, 2] rfl
  have hDc := hD.sub (ws' := (wd_82cdd16b h1 h2 v1 v2 v3 v4 h2 g0 f5)) [1, 2] (by decide) rfl
  have hKc := hK.sub (tys' := [(g0, .int)]) [0] rfl
  have hFc := va_free (wc := (wd_82cdd16b h1 h2 v1 v2 v3 v4 h2 g0 f5)) hD hS hA [1, 2] rfl
  refine va_calli (va_runV (As := []) (rest := []) ⟨hx, hb, hml, hown, hts⟩ (k_X10_next l dC dI h1 h2 v1 v2 v3 v4 g0 f5 ⟨i_v1a, i_v1b⟩ ⟨i_v2a, i_v2b⟩ ia_f5 H.size) (cwV 0 hts g_X3_readAtom_1_0 rfl rfl rfl (by decide +kernel) ⟨Nat.le_of_ble_eq_true rfl, Nat.le_of_ble_eq_true rfl⟩) (pv_PV10 hPc hKc hDc (q0 := 0) rfl) rfl rfl hl.1 rfl (lv_room (Nat.le_of_ble_eq_true rfl)) dX3_readAtom_4 ⟨Nat.le_of_ble_eq_true rfl, Nat.le_of_ble_eq_true rfl⟩) hS (fun q _ h => hFc q h) hFc (fun ra1 u t H1 locs ht hvm hwra1 hB hz1 hk1 hS => ?_)
  try rw [hwra1] at hB
  rcases hB with hB | hB
  · skip
    obtain ⟨x2, oa_x2, ob_x2, pt0_ra1, pt1_ra1, pt2_ra1, pt3_ra1, pt4_ra1, pt5_ra1, pt6_ra1, hP1, hK1, hD1⟩ := hB
    rw [ht] at hP1
    obtain ⟨hP2, hD2⟩ := va_join (wr := (wd_b958b9da h0 h1 h3 v0 h3 g1 f6)) (w1 := (wd_82cdd16b h1 h2 v1 x2 v3 v4 h2 g0 f5)) hP hD [1, 2] [0, 3] rfl rfl (by decide) (by decide) hk1 hFc hP1 hD1
    clear hP hD hPc hDc hKc hFc hP1 hK1 hD1 hk1 hz1
    generalize H1 = H at hP2 hS ⊢
    have hP := hP2.sub (ws' := (wd_1ad0248d h0 h1 h3 v0 h1 h2 v1 x2 v3 v4 h2 g0 f5 h3 g1 f6)) [0, 2, 3, 1] rfl
    have hD := hD2.sub (ws' := (wd_1ad0248d h0 h1 h3 v0 h1 h2 v1 x2 v3 v4 h2 g0 f5 h3 g1 f6)) [0, 2, 3, 1] (by decide) rfl
    clear hP2 hD2
    obtain rfl : ra1 = ((-1) : Int32) := pv_cs (by decide) pt0_ra1 pt1_ra1
    refine lv_istore_n (lv' := [(2, .int (-1)), (0, .ref h0), (1, .int 5)]) hx hb dX3_readAtom_7 rfl hl (by decide) rfl (fun ls hl => ?_)
    refine lv_iload_n hx hb dX3_readAtom_8 rfl (lv_at hl 0 rfl) ?_
    refine lv_bipush (v := 91) hx hb dX3_readAtom_9 (by decide) ?_
    refine lv_icmp_ne (tgt := 55) hx hb dX3_readAtom_11 (by decide) (fun _ => ?_) (fun c => absurd c (by decide))
    refine lv_iload_n hx hb dX3_readAtom_55 rfl (lv_at hl 0 rfl) ?_
    have hPc := hP.sub (ws' := []) [] rfl
    have hDc := hD.sub (ws' := []) [] (by decide) rfl
    have hKc := hK.sub (tys' := []) [] rfl
    have hFc := va_free (wc := []) hD hS hA [] rfl
    refine va_calli (va_runS (As := [.int (-1)]) (rest := []) ⟨hx, hb, hml, hown, hts⟩ (k_X10_isDigit l dC dI ((-1))  H.size) (va_cwS 1 hts g_X3_readAtom_1_1 rfl rfl rfl (by decide +kernel) ⟨Nat.le_of_ble_eq_true rfl, Nat.le_of_ble_eq_true rfl⟩) (pv_PS hPc hKc hDc) rfl rfl hl.1 rfl (lv_room (Nat.le_of_ble_eq_true rfl)) dX3_readAtom_56 ⟨Nat.le_of_ble_eq_true rfl, Nat.le_of_ble_eq_true rfl⟩) hS (fun q _ h => hFc q h) hFc (fun ra3 u t H1 locs ht hvm hwra3 hB hz1 hk1 hS => ?_)
    try rw [hwra3] at hB
    have hkra3_0 : (((-1) : Int32)).toInt = -1 := by decide
    obtain ⟨pt0_ra3, pt1_ra3, pt2_ra3, pt3_ra3, pt4_ra3, hP1, hK1, hD1⟩ := hB
    rw [ht] at hP1
    obtain ⟨hP2, hD2⟩ := va_join (wr := (wd_1ad0248d h0 h1 h3 v0 h1 h2 v1 x2 v3 v4 h2 g0 f5 h3 g1 f6)) (w1 := []) hP hD [] [0, 1, 2, 3] rfl rfl (by decide) (by decide) hk1 hFc hP1 hD1
    clear hP hD hPc hDc hKc hFc hP1 hK1 hD1 hk1 hz1
    generalize H1 = H at hP2 hS ⊢
    have hP : va_P (dC, dI) vwCl (wd_1ad0248d h0 h1 h3 v0 h1 h2 v1 x2 v3 v4 h2 g0 f5 h3 g1 f6) H := hP2
    have hD : va_D A (wd_1ad0248d h0 h1 h3 v0 h1 h2 v1 x2 v3 v4 h2 g0 f5 h3 g1 f6) := hD2
    clear hP2 hD2
    refine lv_if_eq (tgt := 89) hx hb dX3_readAtom_59 (by decide) (fun c4 => ?_) (fun c4 => ?_)
    · skip
      have fc4 : ra3.toInt = 0 := congrArg Int32.toInt c4
      refine lv_iload_n hx hb dX3_readAtom_89 rfl (lv_at hl 0 rfl) ?_
      refine lv_iconst (v := (-1)) hx hb dX3_readAtom_90 (by decide) ?_
      refine lv_icmp_ne (tgt := 98) hx hb dX3_readAtom_91 (by decide) (fun c => absurd (by decide) c) (fun _ => ?_)
      refine lv_iconst (v := (-1)) hx hb dX3_readAtom_94 (by decide) ?_
      refine lv_goto (tgt := 105) hx hb dX3_readAtom_95 (by decide) ?_
      refine lv_istore_n (lv' := [(3, .int (-1)), (2, .int (-1)), (0, .ref h0), (1, .int 5)]) hx hb dX3_readAtom_105 rfl hl (by decide) rfl (fun ls hl => ?_)
      refine lv_iload_n hx hb dX3_readAtom_106 rfl (lv_at hl 0 rfl) ?_
      refine lv_if_ge (tgt := 118) hx hb dX3_readAtom_107 (by decide) (fun c => absurd c (by decide)) (fun _ => ?_)
      refine lv_aload_n hx hb dX3_readAtom_110 rfl (lv_at hl 2 rfl) ?_
      refine va_get (D := (dC, dI)) (ci := 3) (v := .ref h1) (C := RX3) (T := TX3) (N := 3) hx hb hts (fun _ h => List.mem_cons_of_mem _ (List.mem_append_left _ (List.mem_append_right _ h))) hown hK hP 0 rfl rfl 0 (by decide) (hts (.fieldLink RX3 19 "LeftArguments$LawReader" "tape" "LLeftArguments$Tape;") (List.mem_cons_of_mem _ (List.mem_append_left _ (List.mem_append_left _ (List.mem_of_getElem? (i := 0) rfl))))) (fun _ h9 => h9) rfl dX3_readAtom_111 ?_
      have hPc := hP.sub (ws' := (wd_09b0abee h1 h2 v1 x2 v3 v4)) [1] rfl
      have hDc := hD.sub (ws' := (wd_09b0abee h1 h2 v1 x2 v3 v4)) [1] (by decide) rfl
      have hKc := hK.sub (tys' := []) [] rfl
      have hFc := va_free (wc := (wd_09b0abee h1 h2 v1 x2 v3 v4)) hD hS hA [1] rfl
      refine va_calli (va_runV (As := []) (rest := []) ⟨hx, hb, hml, hown, hts⟩ (k_X10_wrongHere l dC dI h1 h2 v1 x2 v3 v4 ⟨i_v1a, i_v1b⟩ ⟨oa_x2, ob_x2⟩ H.size) (cwV 0 hts g_X3_readAtom_1_2 rfl rfl rfl (by decide +kernel) ⟨Nat.le_of_ble_eq_true rfl, Nat.le_of_ble_eq_true rfl⟩) (pv_PV10 hPc hKc hDc (q0 := 0) rfl) rfl rfl hl.1 rfl (lv_room (Nat.le_of_ble_eq_true rfl)) dX3_readAtom_114 ⟨Nat.le_of_ble_eq_true rfl, Nat.le_of_ble_eq_true rfl⟩) hS (fun q _ h => hFc q h) hFc (fun ra5 u t H1 locs ht hvm hwra5 hB hz1 hk1 hS => ?_)
      try rw [hwra5] at hB
      obtain ⟨x6, oa_x6, ob_x6, pt0_ra5, pt1_ra5, pt2_ra5, hP1, hK1, hD1⟩ := hB
      rw [ht] at hP1
      obtain ⟨hP2, hD2⟩ := va_join (wr := (wd_6b0d8e05 h0 h1 h3 v0 h2 g0 f5 h3 g1 f6)) (w1 := (wd_09b0abee h1 h2 v1 x2 x6 v4)) hP hD [1] [0, 2, 3] rfl rfl (by decide) (by decide) hk1 hFc hP1 hD1
      clear hP hD hPc hDc hKc hFc hP1 hK1 hD1 hk1 hz1
      generalize H1 = H at hP2 hS ⊢
      have hP := hP2.sub (ws' := (wd_1ad0248d h0 h1 h3 v0 h1 h2 v1 x2 x6 v4 h2 g0 f5 h3 g1 f6)) [0, 3, 1, 2] rfl
      have hD := hD2.sub (ws' := (wd_1ad0248d h0 h1 h3 v0 h1 h2 v1 x2 x6 v4 h2 g0 f5 h3 g1 f6)) [0, 3, 1, 2] (by decide) rfl
      clear hP2 hD2
      obtain rfl : ra5 = (0 : Int32) := pv_cs (by decide) pt0_ra5 pt1_ra5
      subst hQ
      have hP9 := hP.sub (ws' := (wd_1ad0248d h0 h1 h3 v0 h1 h2 v1 x2 x6 v4 h2 g0 f5 h3 g1 f6)) [0, 1, 2, 3] rfl
      have hD9 := hD.sub (ws' := (wd_1ad0248d h0 h1 h3 v0 h1 h2 v1 x2 x6 v4 h2 g0 f5 h3 g1 f6)) [0, 1, 2, 3] (by decide) rfl
      have hK9 := hK.sub (tys' := []) [] rfl
      exact W.zret (v := 0) hx hb hr rfl (fun t ht hW => ⟨⟨0, 0, rfl, rfl, Or.inr (⟨v0, x2, x6, v4, f6, i_v0a, i_v0b, oa_x2, ob_x2, oa_x6, ob_x6, by first | omega | decide, by first | omega | decide, by omega, by show pg_atomF f5 v1.toInt true (pg_sum f5 v1.toInt 0) _ = _; first | (apply pg_atomF.nmc <;> first | assumption | omega) | (apply pg_atomF.nmf <;> first | assumption | omega) | (apply pg_atomF.num <;> first | assumption | omega) | (apply pg_atomF.lt <;> first | assumption | omega) | (apply pg_atomF.par1 <;> first | assumption | omega) | (apply pg_atomF.par0 <;> first | assumption | omega) | (apply pg_atomF.deep <;> first | assumption | omega) | (apply pg_atomF.bdn <;> first | assumption | omega) | (apply pg_atomF.bad <;> first | assumption | omega), by rw [ht]; exact hP9, va_K.moved hW.alike hK9, hD9⟩)⟩, hS.F ht⟩) hS.2.2 dX3_readAtom_117
    · skip
      have fc4 : ¬ (ra3.toInt = 0) := fun h9 => c4 (Int32.toInt_inj.mp h9)
      exfalso; omega
  · skip
    obtain ⟨x7, oa_x7, ob_x7, pt0_ra1, pt1_ra1, pt2_ra1, pt3_ra1, pt4_ra1, pt5_ra1, pt6_ra1, hP1, hK1, hD1⟩ := hB
    rw [ht] at hP1
    obtain ⟨hP2, hD2⟩ := va_join (wr := (wd_b958b9da h0 h1 h3 v0 h3 g1 f6)) (w1 := (wd_82cdd16b h1 h2 v1 x7 v3 v4 h2 g0 f5)) hP hD [1, 2] [0, 3] rfl rfl (by decide) (by decide) hk1 hFc hP1 hD1
    clear hP hD hPc hDc hKc hFc hP1 hK1 hD1 hk1 hz1
    generalize H1 = H at hP2 hS ⊢
    have hP := hP2.sub (ws' := (wd_1ad0248d h0 h1 h3 v0 h1 h2 v1 x7 v3 v4 h2 g0 f5 h3 g1 f6)) [0, 2, 3, 1] rfl
    have hD := hD2.sub (ws' := (wd_1ad0248d h0 h1 h3 v0 h1 h2 v1 x7 v3 v4 h2 g0 f5 h3 g1 f6)) [0, 2, 3, 1] (by decide) rfl
    clear hP2 hD2
    refine lv_istore_n (lv' := [(2, .int ra1), (0, .ref h0), (1, .int 5)]) hx hb dX3_readAtom_7 rfl hl (by decide) rfl (fun ls hl => ?_)
    refine lv_iload_n hx hb dX3_readAtom_8 rfl (lv_at hl 0 rfl) ?_
    refine lv_bipush (v := 91) hx hb dX3_readAtom_9 (by decide) ?_
    refine lv_icmp_ne (tgt := 55) hx hb dX3_readAtom_11 (by decide) (fun c8 => ?_) (fun c8 => ?_)
    · skip
      have fc8 : ¬ (ra1.toInt = 91) := fun h9 => c8 (Int32.toInt_inj.mp h9)
      refine lv_iload_n hx hb dX3_readAtom_55 rfl (lv_at hl 0 rfl) ?_
      have hPc := hP.sub (ws' := []) [] rfl
      have hDc := hD.sub (ws' := []) [] (by decide) rfl
      have hKc := hK.sub (tys' := []) [] rfl
      have hFc := va_free (wc := []) hD hS hA [] rfl
      refine va_calli (va_runS (As := [.int ra1]) (rest := []) ⟨hx, hb, hml, hown, hts⟩ (k_X10_isDigit l dC dI ra1  H.size) (va_cwS 1 hts g_X3_readAtom_1_1 rfl rfl rfl (by decide +kernel) ⟨Nat.le_of_ble_eq_true rfl, Nat.le_of_ble_eq_true rfl⟩) (pv_PS hPc hKc hDc) rfl rfl hl.1 rfl (lv_room (Nat.le_of_ble_eq_true rfl)) dX3_readAtom_56 ⟨Nat.le_of_ble_eq_true rfl, Nat.le_of_ble_eq_true rfl⟩) hS (fun q _ h => hFc q h) hFc (fun ra9 u t H1 locs ht hvm hwra9 hB hz1 hk1 hS => ?_)
      try rw [hwra9] at hB
      obtain ⟨pt0_ra9, pt1_ra9, pt2_ra9, pt3_ra9, pt4_ra9, hP1, hK1, hD1⟩ := hB
      rw [ht] at hP1
      obtain ⟨hP2, hD2⟩ := va_join (wr := (wd_1ad0248d h0 h1 h3 v0 h1 h2 v1 x7 v3 v4 h2 g0 f5 h3 g1 f6)) (w1 := []) hP hD [] [0, 1, 2, 3] rfl rfl (by decide) (by decide) hk1 hFc hP1 hD1
      clear hP hD hPc hDc hKc hFc hP1 hK1 hD1 hk1 hz1
      generalize H1 = H at hP2 hS ⊢
      have hP : va_P (dC, dI) vwCl (wd_1ad0248d h0 h1 h3 v0 h1 h2 v1 x7 v3 v4 h2 g0 f5 h3 g1 f6) H := hP2
      have hD : va_D A (wd_1ad0248d h0 h1 h3 v0 h1 h2 v1 x7 v3 v4 h2 g0 f5 h3 g1 f6) := hD2
      clear hP2 hD2
      refine lv_if_eq (tgt := 89) hx hb dX3_readAtom_59 (by decide) (fun c10 => ?_) (fun c10 => ?_)
      · skip
        have fc10 : ra9.toInt = 0 := congrArg Int32.toInt c10
        refine lv_iload_n hx hb dX3_readAtom_89 rfl (lv_at hl 0 rfl) ?_
        refine lv_iconst (v := (-1)) hx hb dX3_readAtom_90 (by decide) ?_
        refine lv_icmp_ne (tgt := 98) hx hb dX3_readAtom_91 (by decide) (fun _ => ?_) (fun c11 => by exfalso; have fc11 : ra1.toInt = (-1) := congrArg Int32.toInt c11; omega)
        refine va_ldcS hx hb hown h_vr_2 dX3_readAtom_98 ?_
        refine lv_iload_n hx hb dX3_readAtom_100 rfl (lv_at hl 0 rfl) ?_
        obtain ⟨t12, et12⟩ : ∃ z : Int32, z = ((ra1 : Int32).toUInt32 % 65536).toInt32 := ⟨_, rfl⟩
        refine lv_i2c (v := t12) hx hb dX3_readAtom_101 (by rw [et12]) ?_
        have hcct12 : t12.toInt = pg_ch f5 v1.toInt x7.toInt := pg_i2c et12 (by omega) (by omega) (by omega)
        have hPc := hP.sub (ws' := []) [] rfl
        have hDc := hD.sub (ws' := []) [] (by decide) rfl
        have hKc := hK.sub (tys' := []) [] rfl
        have hFc := va_free (wc := []) hD hS hA [] rfl
        refine va_calli (va_runV (As := [.int t12]) (rest := []) ⟨hx, hb, hml, hown, hts⟩ (k_J0_indexOf_0f7a4 l dC dI adK adV t12  H.size) (cwV 1 hts g_X3_readAtom_1_4 rfl rfl rfl (by decide +kernel) ⟨Nat.le_of_ble_eq_true rfl, Nat.le_of_ble_eq_true rfl⟩) ⟨fun a U g mk q => by obtain ⟨q0, q1, qP, qK, qD, n0, n1⟩ := q; exact ⟨q0, q1, qP, va_K.moved (u := U) (U := U.calling g mk a) (Vm.Alike.refl U.vm) qK, qD, va_Z.moved (Vm.Alike.refl _) n0, vk_S.moved (Vm.Alike.refl _) n1⟩, vk_recv h_st_S (by decide : 2 < 3) hS, fun U hU hW => ⟨rfl, by rw [hU], by rw [hU]; exact hPc, va_K.moved hW.alike hKc, hDc.weaken (fun _ _ _ _ => trivial), (by rw [hU]; exact (va_Z.moved hW.alike (va_Z.kept h_st_CS hS.2.1)).narrow hFc), (by rw [hU]; exact (vk_S.moved hW.alike (vk_S.kept h_st_S hS.2.1)).narrow hFc)⟩⟩ rfl rfl hl.1 rfl (lv_room (Nat.le_of_ble_eq_true rfl)) dX3_readAtom_102 ⟨Nat.le_of_ble_eq_true rfl, Nat.le_of_ble_eq_true rfl⟩) hS (fun q _ h => hFc q h) hFc (fun ra13 u t H1 locs ht hvm hwra13 hB hz1 hk1 hS => ?_)
        try rw [hwra13] at hB
        obtain ⟨pt0_ra13, pt1_ra13, pt2_ra13, hP1, hK1, hD1⟩ := hB
        rw [ht] at hP1
        obtain ⟨hP2, hD2⟩ := va_join (wr := (wd_1ad0248d h0 h1 h3 v0 h1 h2 v1 x7 v3 v4 h2 g0 f5 h3 g1 f6)) (w1 := []) hP hD [] [0, 1, 2, 3] rfl rfl (by decide) (by decide) hk1 hFc hP1 hD1
        clear hP hD hPc hDc hKc hFc hP1 hK1 hD1 hk1 hz1
        generalize H1 = H at hP2 hS ⊢
        have hP : va_P (dC, dI) vwCl (wd_1ad0248d h0 h1 h3 v0 h1 h2 v1 x7 v3 v4 h2 g0 f5 h3 g1 f6) H := hP2
        have hD : va_D A (wd_1ad0248d h0 h1 h3 v0 h1 h2 v1 x7 v3 v4 h2 g0 f5 h3 g1 f6) := hD2
        clear hP2 hD2
        have hltra13 : pm_lt (pg_ch f5 v1.toInt x7.toInt) = ra13.toInt := by rw [show pg_ch f5 v1.toInt x7.toInt = t12.toInt by omega]; omega
        refine lv_istore_n (lv' := [(3, .int ra13), (2, .int ra1), (0, .ref h0), (1, .int 5)]) hx hb dX3_readAtom_105 rfl hl (by decide) rfl (fun ls hl => ?_)
        refine lv_iload_n hx hb dX3_readAtom_106 rfl (lv_at hl 0 rfl) ?_
        refine lv_if_ge (tgt := 118) hx hb dX3_readAtom_107 (by decide) (fun c14 => ?_) (fun c14 => ?_)
        · skip
          have fc14 : 0 ≤ ra13.toInt := Int32.le_iff_toInt_le.mp c14
          refine lv_aload_n hx hb dX3_readAtom_118 rfl (lv_at hl 2 rfl) ?_
          refine va_get (D := (dC, dI)) (ci := 3) (v := .ref h1) (C := RX3) (T := TX3) (N := 3) hx hb hts (fun _ h => List.mem_cons_of_mem _ (List.mem_append_left _ (List.mem_append_right _ h))) hown hK hP 0 rfl rfl 0 (by decide) (hts (.fieldLink RX3 19 "LeftArguments$LawReader" "tape" "LLeftArguments$Tape;") (List.mem_cons_of_mem _ (List.mem_append_left _ (List.mem_append_left _ (List.mem_of_getElem? (i := 0) rfl))))) (fun _ h9 => h9) rfl dX3_readAtom_119 ?_
          have hPc := hP.sub (ws' := (wd_09b0abee h1 h2 v1 x7 v3 v4)) [1] rfl
          have hDc := hD.sub (ws' := (wd_09b0abee h1 h2 v1 x7 v3 v4)) [1] (by decide) rfl
          have hKc := hK.sub (tys' := []) [] rfl
          have hFc := va_free (wc := (wd_09b0abee h1 h2 v1 x7 v3 v4)) hD hS hA [1] rfl
          refine va_callv (va_runV (As := []) (rest := []) ⟨hx, hb, hml, hown, hts⟩ (k_X10_step l dC dI h1 h2 v1 x7 v3 v4 ⟨i_v1a, i_v1b⟩ ⟨oa_x7, ob_x7⟩ H.size) (cwV 0 hts g_X3_readAtom_1_5 rfl rfl rfl (by decide +kernel) ⟨Nat.le_of_ble_eq_true rfl, Nat.le_of_ble_eq_true rfl⟩) (pv_PV10 hPc hKc hDc (q0 := 0) rfl) rfl rfl hl.1 rfl (lv_room (Nat.le_of_ble_eq_true rfl)) dX3_readAtom_122 ⟨Nat.le_of_ble_eq_true rfl, Nat.le_of_ble_eq_true rfl⟩) hS (fun q _ h => hFc q h) hFc (fun u t H1 locs ht hvm hwra15 hB hz1 hk1 hS => ?_)
          obtain ⟨x16, oa_x16, ob_x16, pt0_ra15, hP1, hK1, hD1⟩ := hB
          rw [ht] at hP1
          obtain ⟨hP2, hD2⟩ := va_join (wr := (wd_6b0d8e05 h0 h1 h3 v0 h2 g0 f5 h3 g1 f6)) (w1 := (wd_09b0abee h1 h2 v1 x16 v3 v4)) hP hD [1] [0, 2, 3] rfl rfl (by decide) (by decide) hk1 hFc hP1 hD1
          clear hP hD hPc hDc hKc hFc hP1 hK1 hD1 hk1 hz1
          generalize H1 = H at hP2 hS ⊢
          have hP := hP2.sub (ws' := (wd_1ad0248d h0 h1 h3 v0 h1 h2 v1 x16 v3 v4 h2 g0 f5 h3 g1 f6)) [0, 3, 1, 2] rfl
          have hD := hD2.sub (ws' := (wd_1ad0248d h0 h1 h3 v0 h1 h2 v1 x16 v3 v4 h2 g0 f5 h3 g1 f6)) [0, 3, 1, 2] (by decide) rfl
          clear hP2 hD2
          refine lv_aload_n hx hb dX3_readAtom_125 rfl (lv_at hl 2 rfl) ?_
          refine lv_iconst (v := 1) hx hb dX3_readAtom_126 (by decide) ?_
          refine lv_iload_n hx hb dX3_readAtom_127 rfl (lv_at hl 0 rfl) ?_
          have hPc := hP.sub (ws' := (wd_b958b9da h0 h1 h3 v0 h3 g1 f6)) [0, 3] rfl
          have hDc := hD.sub (ws' := (wd_b958b9da h0 h1 h3 v0 h3 g1 f6)) [0, 3] (by decide) rfl
          have hKc := hK.sub (tys' := [(g1, .int)]) [1] rfl
          have hFc := va_free (wc := (wd_b958b9da h0 h1 h3 v0 h3 g1 f6)) hD hS hA [0, 3] rfl
          refine va_callv (va_runV (As := [.int 1, .int ra13]) (rest := []) ⟨hx, hb, hml, hown, hts⟩ (k_X3_write l dC dI h0 h3 h1 v0 g1 f6 1 ra13 ⟨i_v0a, i_v0b⟩ H.size) (cwV 2 hts g_X3_readAtom_1_6 rfl rfl rfl (by decide +kernel) ⟨Nat.le_of_ble_eq_true rfl, Nat.le_of_ble_eq_true rfl⟩) (pv_PV3 hPc hKc hDc (q0 := 0) rfl) rfl rfl hl.1 rfl (lv_room (Nat.le_of_ble_eq_true rfl)) dX3_readAtom_128 ⟨Nat.le_of_ble_eq_true rfl, Nat.le_of_ble_eq_true rfl⟩) hS (fun q _ h => hFc q h) hFc (fun u t H1 locs ht hvm hwra17 hB hz1 hk1 hS => ?_)
          obtain ⟨x18, fn19, oa_x18, ob_x18, hP1, hK1, hD1⟩ := hB
          rw [ht] at hP1
          obtain ⟨hP2, hD2⟩ := va_join (wr := (wd_82cdd16b h1 h2 v1 x16 v3 v4 h2 g0 f5)) (w1 := (wd_b958b9da h0 h1 h3 x18 h3 g1 fn19)) hP hD [0, 3] [1, 2] rfl rfl (by decide) (by decide) hk1 hFc hP1 hD1
          clear hP hD hPc hDc hKc hFc hP1 hK1 hD1 hk1 hz1
          generalize H1 = H at hP2 hS ⊢
          have hP := hP2.sub (ws' := (wd_1ad0248d h0 h1 h3 x18 h1 h2 v1 x16 v3 v4 h2 g0 f5 h3 g1 fn19)) [2, 0, 1, 3] rfl
          have hD := hD2.sub (ws' := (wd_1ad0248d h0 h1 h3 x18 h1 h2 v1 x16 v3 v4 h2 g0 f5 h3 g1 fn19)) [2, 0, 1, 3] (by decide) rfl
          clear hP2 hD2
          refine lv_iconst (v := 1) hx hb dX3_readAtom_131 (by decide) ?_
          subst hQ
          have hP9 := hP.sub (ws' := (wd_1ad0248d h0 h1 h3 x18 h1 h2 v1 x16 v3 v4 h2 g0 f5 h3 g1 fn19)) [0, 1, 2, 3] rfl
          have hD9 := hD.sub (ws' := (wd_1ad0248d h0 h1 h3 x18 h1 h2 v1 x16 v3 v4 h2 g0 f5 h3 g1 fn19)) [0, 1, 2, 3] (by decide) rfl
          have hK9 := hK.sub (tys' := []) [] rfl
          exact W.zret (v := 1) hx hb hr rfl (fun t ht hW => ⟨⟨1, 1, rfl, rfl, Or.inl ⟨x18, x16, v4, fn19, oa_x18, ob_x18, by first | omega | decide, ob_x16, by first | omega | decide, by first | omega | decide, by omega, by show pg_atomF f5 v1.toInt true (pg_sum f5 v1.toInt 0) _ = _; first | (apply pg_atomF.nmc <;> first | assumption | omega) | (apply pg_atomF.nmf <;> first | assumption | omega) | (apply pg_atomF.num <;> first | assumption | omega) | (apply pg_atomF.lt <;> first | assumption | omega) | (apply pg_atomF.par1 <;> first | assumption | omega) | (apply pg_atomF.par0 <;> first | assumption | omega) | (apply pg_atomF.deep <;> first | assumption | omega) | (apply pg_atomF.bdn <;> first | assumption | omega) | (apply pg_atomF.bad <;> first | assumption | omega), by rw [ht]; exact hP9, va_K.moved hW.alike hK9, hD9⟩⟩, hS.F ht⟩) hS.2.2 dX3_readAtom_132
        · skip
          have fc14 : ¬ (0 ≤ ra13.toInt) := fun h9 => c14 (Int32.le_iff_toInt_le.mpr h9)
          refine lv_aload_n hx hb dX3_readAtom_110 rfl (lv_at hl 2 rfl) ?_
          refine va_get (D := (dC, dI)) (ci := 3) (v := .ref h1) (C := RX3) (T := TX3) (N := 3) hx hb hts (fun _ h => List.mem_cons_of_mem _ (List.mem_append_left _ (List.mem_append_right _ h))) hown hK hP 0 rfl rfl 0 (by decide) (hts (.fieldLink RX3 19 "LeftArguments$LawReader" "tape" "LLeftArguments$Tape;") (List.mem_cons_of_mem _ (List.mem_append_left _ (List.mem_append_left _ (List.mem_of_getElem? (i := 0) rfl))))) (fun _ h9 => h9) rfl dX3_readAtom_111 ?_
          have hPc := hP.sub (ws' := (wd_09b0abee h1 h2 v1 x7 v3 v4)) [1] rfl
          have hDc := hD.sub (ws' := (wd_09b0abee h1 h2 v1 x7 v3 v4)) [1] (by decide) rfl
          have hKc := hK.sub (tys' := []) [] rfl
          have hFc := va_free (wc := (wd_09b0abee h1 h2 v1 x7 v3 v4)) hD hS hA [1] rfl
          refine va_calli (va_runV (As := []) (rest := []) ⟨hx, hb, hml, hown, hts⟩ (k_X10_wrongHere l dC dI h1 h2 v1 x7 v3 v4 ⟨i_v1a, i_v1b⟩ ⟨oa_x7, by first | omega | decide⟩ H.size) (cwV 0 hts g_X3_readAtom_1_2 rfl rfl rfl (by decide +kernel) ⟨Nat.le_of_ble_eq_true rfl, Nat.le_of_ble_eq_true rfl⟩) (pv_PV10 hPc hKc hDc (q0 := 0) rfl) rfl rfl hl.1 rfl (lv_room (Nat.le_of_ble_eq_true rfl)) dX3_readAtom_114 ⟨Nat.le_of_ble_eq_true rfl, Nat.le_of_ble_eq_true rfl⟩) hS (fun q _ h => hFc q h) hFc (fun ra20 u t H1 locs ht hvm hwra20 hB hz1 hk1 hS => ?_)
          try rw [hwra20] at hB
          obtain ⟨x21, oa_x21, ob_x21, pt0_ra20, pt1_ra20, pt2_ra20, hP1, hK1, hD1⟩ := hB
          rw [ht] at hP1
          obtain ⟨hP2, hD2⟩ := va_join (wr := (wd_6b0d8e05 h0 h1 h3 v0 h2 g0 f5 h3 g1 f6)) (w1 := (wd_09b0abee h1 h2 v1 x7 x21 v4)) hP hD [1] [0, 2, 3] rfl rfl (by decide) (by decide) hk1 hFc hP1 hD1
          clear hP hD hPc hDc hKc hFc hP1 hK1 hD1 hk1 hz1
          generalize H1 = H at hP2 hS ⊢
          have hP := hP2.sub (ws' := (wd_1ad0248d h0 h1 h3 v0 h1 h2 v1 x7 x21 v4 h2 g0 f5 h3 g1 f6)) [0, 3, 1, 2] rfl
          have hD := hD2.sub (ws' := (wd_1ad0248d h0 h1 h3 v0 h1 h2 v1 x7 x21 v4 h2 g0 f5 h3 g1 f6)) [0, 3, 1, 2] (by decide) rfl
          clear hP2 hD2
          obtain rfl : ra20 = (0 : Int32) := pv_cs (by decide) pt0_ra20 pt1_ra20
          subst hQ
          have hP9 := hP.sub (ws' := (wd_1ad0248d h0 h1 h3 v0 h1 h2 v1 x7 x21 v4 h2 g0 f5 h3 g1 f6)) [0, 1, 2, 3] rfl
          have hD9 := hD.sub (ws' := (wd_1ad0248d h0 h1 h3 v0 h1 h2 v1 x7 x21 v4 h2 g0 f5 h3 g1 f6)) [0, 1, 2, 3] (by decide) rfl
          have hK9 := hK.sub (tys' := []) [] rfl
          exact W.zret (v := 0) hx hb hr rfl (fun t ht hW => ⟨⟨0, 0, rfl, rfl, Or.inr (⟨v0, x7, x21, v4, f6, i_v0a, i_v0b, oa_x7, by first | omega | decide, oa_x21, ob_x21, by first | omega | decide, by first | omega | decide, by omega, by show pg_atomF f5 v1.toInt true (pg_sum f5 v1.toInt 0) _ = _; first | (apply pg_atomF.nmc <;> first | assumption | omega) | (apply pg_atomF.nmf <;> first | assumption | omega) | (apply pg_atomF.num <;> first | assumption | omega) | (apply pg_atomF.lt <;> first | assumption | omega) | (apply pg_atomF.par1 <;> first | assumption | omega) | (apply pg_atomF.par0 <;> first | assumption | omega) | (apply pg_atomF.deep <;> first | assumption | omega) | (apply pg_atomF.bdn <;> first | assumption | omega) | (apply pg_atomF.bad <;> first | assumption | omega), by rw [ht]; exact hP9, va_K.moved hW.alike hK9, hD9⟩)⟩, hS.F ht⟩) hS.2.2 dX3_readAtom_117
      · skip
        have fc10 : ¬ (ra9.toInt = 0) := fun h9 => c10 (Int32.toInt_inj.mp h9)
        refine lv_aload_n hx hb dX3_readAtom_62 rfl (lv_at hl 1 rfl) ?_
        refine va_get (D := (dC, dI)) (ci := 3) (v := .ref h1) (C := RX3) (T := TX3) (N := 3) hx hb hts (fun _ h => List.mem_cons_of_mem _ (List.mem_append_left _ (List.mem_append_right _ h))) hown hK hP 0 rfl rfl 0 (by decide) (hts (.fieldLink RX3 19 "LeftArguments$LawReader" "tape" "LLeftArguments$Tape;") (List.mem_cons_of_mem _ (List.mem_append_left _ (List.mem_append_left _ (List.mem_of_getElem? (i := 0) rfl))))) (fun _ h9 => h9) rfl dX3_readAtom_63 ?_
        refine lv_iconst (v := 4) hx hb dX3_readAtom_66 (by decide) ?_
        have hPc := hP.sub (ws' := (wd_82cdd16b h1 h2 v1 x7 v3 v4 h2 g0 f5)) [1, 2] rfl
        have hDc := hD.sub (ws' := (wd_82cdd16b h1 h2 v1 x7 v3 v4 h2 g0 f5)) [1, 2] (by decide) rfl
        have hKc := hK.sub (tys' := [(g0, .int)]) [0] rfl
        have hFc := va_free (wc := (wd_82cdd16b h1 h2 v1 x7 v3 v4 h2 g0 f5)) hD hS hA [1, 2] rfl
        refine va_calli (va_runV (As := [.int 4]) (rest := []) ⟨hx, hb, hml, hown, hts⟩ (k_X10_takeNumber l dC dI h1 h2 v1 x7 v3 v4 g0 f5 ⟨i_v1a, i_v1b⟩ ⟨oa_x7, by first | omega | decide⟩ ia_f5 H.size) (cwV 1 hts g_X3_readAtom_1_8 rfl rfl rfl (by decide +kernel) ⟨Nat.le_of_ble_eq_true rfl, Nat.le_of_ble_eq_true rfl⟩) (pv_PV10 hPc hKc hDc (q0 := 0) rfl) rfl rfl hl.1 rfl (lv_room (Nat.le_of_ble_eq_true rfl)) dX3_readAtom_67 ⟨Nat.le_of_ble_eq_true rfl, Nat.le_of_ble_eq_true rfl⟩) hS (fun q _ h => hFc q h) hFc (fun ra22 u t H1 locs ht hvm hwra22 hB hz1 hk1 hS => ?_)
        try rw [hwra22] at hB
        rcases hB with hB | hB
        · skip
          obtain ⟨x23, x24, oa_x23, ob_x23, oa_x24, ob_x24, pt0_ra22, pt1_ra22, pt2_ra22, pt3_ra22, hP1, hK1, hD1⟩ := hB
          rw [ht] at hP1
          obtain ⟨hP2, hD2⟩ := va_join (wr := (wd_b958b9da h0 h1 h3 v0 h3 g1 f6)) (w1 := (wd_82cdd16b h1 h2 v1 x23 v3 x24 h2 g0 f5)) hP hD [1, 2] [0, 3] rfl rfl (by decide) (by decide) hk1 hFc hP1 hD1
          clear hP hD hPc hDc hKc hFc hP1 hK1 hD1 hk1 hz1
          generalize H1 = H at hP2 hS ⊢
          have hP := hP2.sub (ws' := (wd_1ad0248d h0 h1 h3 v0 h1 h2 v1 x23 v3 x24 h2 g0 f5 h3 g1 f6)) [0, 2, 3, 1] rfl
          have hD := hD2.sub (ws' := (wd_1ad0248d h0 h1 h3 v0 h1 h2 v1 x23 v3 x24 h2 g0 f5 h3 g1 f6)) [0, 2, 3, 1] (by decide) rfl
          clear hP2 hD2
          obtain rfl : ra22 = (1 : Int32) := pv_cs (by decide) pt0_ra22 pt1_ra22
          refine lv_if_ne (tgt := 75) hx hb dX3_readAtom_70 (by decide) (fun _ => ?_) (fun c => absurd c (by decide))
          refine lv_aload_n hx hb dX3_readAtom_75 rfl (lv_at hl 1 rfl) ?_
          refine lv_iconst (v := 0) hx hb dX3_readAtom_76 (by decide) ?_
          refine lv_aload_n hx hb dX3_readAtom_77 rfl (lv_at hl 1 rfl) ?_
          refine va_get (D := (dC, dI)) (ci := 3) (v := .ref h1) (C := RX3) (T := TX3) (N := 3) hx hb hts (fun _ h => List.mem_cons_of_mem _ (List.mem_append_left _ (List.mem_append_right _ h))) hown hK hP 0 rfl rfl 0 (by decide) (hts (.fieldLink RX3 19 "LeftArguments$LawReader" "tape" "LLeftArguments$Tape;") (List.mem_cons_of_mem _ (List.mem_append_left _ (List.mem_append_left _ (List.mem_of_getElem? (i := 0) rfl))))) (fun _ h9 => h9) rfl dX3_readAtom_78 ?_
          have hPc := hP.sub (ws' := (wd_09b0abee h1 h2 v1 x23 v3 x24)) [1] rfl
          have hDc := hD.sub (ws' := (wd_09b0abee h1 h2 v1 x23 v3 x24)) [1] (by decide) rfl
          have hKc := hK.sub (tys' := []) [] rfl
          have hFc := va_free (wc := (wd_09b0abee h1 h2 v1 x23 v3 x24)) hD hS hA [1] rfl
          refine va_calli (va_runV (As := []) (rest := [.int 0, .ref h0]) ⟨hx, hb, hml, hown, hts⟩ (k_X10_number l dC dI h1 h2 v1 x23 v3 x24 ⟨i_v1a, i_v1b⟩ H.size) (cwV 0 hts g_X3_readAtom_1_9 rfl rfl rfl (by decide +kernel) ⟨Nat.le_of_ble_eq_true rfl, Nat.le_of_ble_eq_true rfl⟩) (pv_PV10 hPc hKc hDc (q0 := 0) rfl) rfl rfl hl.1 rfl (lv_room (Nat.le_of_ble_eq_true rfl)) dX3_readAtom_81 ⟨Nat.le_of_ble_eq_true rfl, Nat.le_of_ble_eq_true rfl⟩) hS (fun q _ h => hFc q h) hFc (fun ra25 u t H1 locs ht hvm hwra25 hB hz1 hk1 hS => ?_)
          try rw [hwra25] at hB
          obtain ⟨pt0_ra25, hP1, hK1, hD1⟩ := hB
          rw [ht] at hP1
          obtain ⟨hP2, hD2⟩ := va_join (wr := (wd_6b0d8e05 h0 h1 h3 v0 h2 g0 f5 h3 g1 f6)) (w1 := (wd_09b0abee h1 h2 v1 x23 v3 x24)) hP hD [1] [0, 2, 3] rfl rfl (by decide) (by decide) hk1 hFc hP1 hD1
          clear hP hD hPc hDc hKc hFc hP1 hK1 hD1 hk1 hz1
          generalize H1 = H at hP2 hS ⊢
          have hP := hP2.sub (ws' := (wd_1ad0248d h0 h1 h3 v0 h1 h2 v1 x23 v3 x24 h2 g0 f5 h3 g1 f6)) [0, 3, 1, 2] rfl
          have hD := hD2.sub (ws' := (wd_1ad0248d h0 h1 h3 v0 h1 h2 v1 x23 v3 x24 h2 g0 f5 h3 g1 f6)) [0, 3, 1, 2] (by decide) rfl
          clear hP2 hD2
          obtain rfl : x24 = ra25 := pt0_ra25.symm
          have hPc := hP.sub (ws' := (wd_b958b9da h0 h1 h3 v0 h3 g1 f6)) [0, 3] rfl
          have hDc := hD.sub (ws' := (wd_b958b9da h0 h1 h3 v0 h3 g1 f6)) [0, 3] (by decide) rfl
          have hKc := hK.sub (tys' := [(g1, .int)]) [1] rfl
          have hFc := va_free (wc := (wd_b958b9da h0 h1 h3 v0 h3 g1 f6)) hD hS hA [0, 3] rfl
          refine va_callv (va_runV (As := [.int 0, .int x24]) (rest := []) ⟨hx, hb, hml, hown, hts⟩ (k_X3_write l dC dI h0 h3 h1 v0 g1 f6 0 x24 ⟨i_v0a, i_v0b⟩ H.size) (cwV 2 hts g_X3_readAtom_1_6 rfl rfl rfl (by decide +kernel) ⟨Nat.le_of_ble_eq_true rfl, Nat.le_of_ble_eq_true rfl⟩) (pv_PV3 hPc hKc hDc (q0 := 0) rfl) rfl rfl hl.1 rfl (lv_room (Nat.le_of_ble_eq_true rfl)) dX3_readAtom_84 ⟨Nat.le_of_ble_eq_true rfl, Nat.le_of_ble_eq_true rfl⟩) hS (fun q _ h => hFc q h) hFc (fun u t H1 locs ht hvm hwra26 hB hz1 hk1 hS => ?_)
          obtain ⟨x27, fn28, oa_x27, ob_x27, hP1, hK1, hD1⟩ := hB
          rw [ht] at hP1
          obtain ⟨hP2, hD2⟩ := va_join (wr := (wd_82cdd16b h1 h2 v1 x23 v3 x24 h2 g0 f5)) (w1 := (wd_b958b9da h0 h1 h3 x27 h3 g1 fn28)) hP hD [0, 3] [1, 2] rfl rfl (by decide) (by decide) hk1 hFc hP1 hD1
          clear hP hD hPc hDc hKc hFc hP1 hK1 hD1 hk1 hz1
          generalize H1 = H at hP2 hS ⊢
          have hP := hP2.sub (ws' := (wd_1ad0248d h0 h1 h3 x27 h1 h2 v1 x23 v3 x24 h2 g0 f5 h3 g1 fn28)) [2, 0, 1, 3] rfl
          have hD := hD2.sub (ws' := (wd_1ad0248d h0 h1 h3 x27 h1 h2 v1 x23 v3 x24 h2 g0 f5 h3 g1 fn28)) [2, 0, 1, 3] (by decide) rfl
          clear hP2 hD2
          refine lv_iconst (v := 1) hx hb dX3_readAtom_87 (by decide) ?_
          subst hQ
          have hP9 := hP.sub (ws' := (wd_1ad0248d h0 h1 h3 x27 h1 h2 v1 x23 v3 x24 h2 g0 f5 h3 g1 fn28)) [0, 1, 2, 3] rfl
          have hD9 := hD.sub (ws' := (wd_1ad0248d h0 h1 h3 x27 h1 h2 v1 x23 v3 x24 h2 g0 f5 h3 g1 fn28)) [0, 1, 2, 3] (by decide) rfl
          have hK9 := hK.sub (tys' := []) [] rfl
          exact W.zret (v := 1) hx hb hr rfl (fun t ht hW => ⟨⟨1, 1, rfl, rfl, Or.inl ⟨x27, x23, x24, fn28, oa_x27, ob_x27, oa_x23, ob_x23, by first | omega | decide, by first | omega | decide, by omega, by show pg_atomF f5 v1.toInt true (pg_sum f5 v1.toInt 0) _ = _; first | (apply pg_atomF.nmc <;> first | assumption | omega) | (apply pg_atomF.nmf <;> first | assumption | omega) | (apply pg_atomF.num <;> first | assumption | omega) | (apply pg_atomF.lt <;> first | assumption | omega) | (apply pg_atomF.par1 <;> first | assumption | omega) | (apply pg_atomF.par0 <;> first | assumption | omega) | (apply pg_atomF.deep <;> first | assumption | omega) | (apply pg_atomF.bdn <;> first | assumption | omega) | (apply pg_atomF.bad <;> first | assumption | omega), by rw [ht]; exact hP9, va_K.moved hW.alike hK9, hD9⟩⟩, hS.F ht⟩) hS.2.2 dX3_readAtom_88
        · skip
          obtain ⟨x29, x30, x31, oa_x29, ob_x29, oa_x30, ob_x30, pt0_ra22, pt1_ra22, pt2_ra22, pt3_ra22, hP1, hK1, hD1⟩ := hB
          rw [ht] at hP1
          obtain ⟨hP2, hD2⟩ := va_join (wr := (wd_b958b9da h0 h1 h3 v0 h3 g1 f6)) (w1 := (wd_82cdd16b h1 h2 v1 x29 x30 x31 h2 g0 f5)) hP hD [1, 2] [0, 3] rfl rfl (by decide) (by decide) hk1 hFc hP1 hD1
          clear hP hD hPc hDc hKc hFc hP1 hK1 hD1 hk1 hz1
          generalize H1 = H at hP2 hS ⊢
          have hP := hP2.sub (ws' := (wd_1ad0248d h0 h1 h3 v0 h1 h2 v1 x29 x30 x31 h2 g0 f5 h3 g1 f6)) [0, 2, 3, 1] rfl
          have hD := hD2.sub (ws' := (wd_1ad0248d h0 h1 h3 v0 h1 h2 v1 x29 x30 x31 h2 g0 f5 h3 g1 f6)) [0, 2, 3, 1] (by decide) rfl
          clear hP2 hD2
          obtain rfl : ra22 = (0 : Int32) := pv_cs (by decide) pt0_ra22 pt1_ra22
          refine lv_if_ne (tgt := 75) hx hb dX3_readAtom_70 (by decide) (fun c => absurd (by decide) c) (fun _ => ?_)
          refine lv_iconst (v := 0) hx hb dX3_readAtom_73 (by decide) ?_
          subst hQ
          have hP9 := hP.sub (ws' := (wd_1ad0248d h0 h1 h3 v0 h1 h2 v1 x29 x30 x31 h2 g0 f5 h3 g1 f6)) [0, 1, 2, 3] rfl
          have hD9 := hD.sub (ws' := (wd_1ad0248d h0 h1 h3 v0 h1 h2 v1 x29 x30 x31 h2 g0 f5 h3 g1 f6)) [0, 1, 2, 3] (by decide) rfl
          have hK9 := hK.sub (tys' := []) [] rfl
          exact W.zret (v := 0) hx hb hr rfl (fun t ht hW => ⟨⟨0, 0, rfl, rfl, Or.inr (⟨v0, x29, x30, x31, f6, i_v0a, i_v0b, oa_x29, ob_x29, oa_x30, ob_x30, by first | omega | decide, by first | omega | decide, by omega, by show pg_atomF f5 v1.toInt true (pg_sum f5 v1.toInt 0) _ = _; first | (apply pg_atomF.nmc <;> first | assumption | omega) | (apply pg_atomF.nmf <;> first | assumption | omega) | (apply pg_atomF.num <;> first | assumption | omega) | (apply pg_atomF.lt <;> first | assumption | omega) | (apply pg_atomF.par1 <;> first | assumption | omega) | (apply pg_atomF.par0 <;> first | assumption | omega) | (apply pg_atomF.deep <;> first | assumption | omega) | (apply pg_atomF.bdn <;> first | assumption | omega) | (apply pg_atomF.bad <;> first | assumption | omega), by rw [ht]; exact hP9, va_K.moved hW.alike hK9, hD9⟩)⟩, hS.F ht⟩) hS.2.2 dX3_readAtom_74
    · skip
      have fc8 : ra1.toInt = 91 := congrArg Int32.toInt c8
      refine lv_iload_n hx hb dX3_readAtom_14 rfl (lv_at hl 2 rfl) ?_
      refine lv_bipush (v := 6) hx hb dX3_readAtom_15 (by decide) ?_
      refine lv_icmp_ge (tgt := 55) hx hb dX3_readAtom_17 (by decide) (fun c => absurd c (by decide)) (fun _ => ?_)
      refine lv_aload_n hx hb dX3_readAtom_20 rfl (lv_at hl 1 rfl) ?_
      refine va_get (D := (dC, dI)) (ci := 3) (v := .ref h1) (C := RX3) (T := TX3) (N := 3) hx hb hts (fun _ h => List.mem_cons_of_mem _ (List.mem_append_left _ (List.mem_append_right _ h))) hown hK hP 0 rfl rfl 0 (by decide) (hts (.fieldLink RX3 19 "LeftArguments$LawReader" "tape" "LLeftArguments$Tape;") (List.mem_cons_of_mem _ (List.mem_append_left _ (List.mem_append_left _ (List.mem_of_getElem? (i := 0) rfl))))) (fun _ h9 => h9) rfl dX3_readAtom_21 ?_
      have hPc := hP.sub (ws' := (wd_09b0abee h1 h2 v1 x7 v3 v4)) [1] rfl
      have hDc := hD.sub (ws' := (wd_09b0abee h1 h2 v1 x7 v3 v4)) [1] (by decide) rfl
      have hKc := hK.sub (tys' := []) [] rfl
      have hFc := va_free (wc := (wd_09b0abee h1 h2 v1 x7 v3 v4)) hD hS hA [1] rfl
      refine va_callv (va_runV (As := []) (rest := []) ⟨hx, hb, hml, hown, hts⟩ (k_X10_step l dC dI h1 h2 v1 x7 v3 v4 ⟨i_v1a, i_v1b⟩ ⟨oa_x7, ob_x7⟩ H.size) (cwV 0 hts g_X3_readAtom_1_5 rfl rfl rfl (by decide +kernel) ⟨Nat.le_of_ble_eq_true rfl, Nat.le_of_ble_eq_true rfl⟩) (pv_PV10 hPc hKc hDc (q0 := 0) rfl) rfl rfl hl.1 rfl (lv_room (Nat.le_of_ble_eq_true rfl)) dX3_readAtom_24 ⟨Nat.le_of_ble_eq_true rfl, Nat.le_of_ble_eq_true rfl⟩) hS (fun q _ h => hFc q h) hFc (fun u t H1 locs ht hvm hwra32 hB hz1 hk1 hS => ?_)
      obtain ⟨x33, oa_x33, ob_x33, pt0_ra32, hP1, hK1, hD1⟩ := hB
      rw [ht] at hP1
      obtain ⟨hP2, hD2⟩ := va_join (wr := (wd_6b0d8e05 h0 h1 h3 v0 h2 g0 f5 h3 g1 f6)) (w1 := (wd_09b0abee h1 h2 v1 x33 v3 v4)) hP hD [1] [0, 2, 3] rfl rfl (by decide) (by decide) hk1 hFc hP1 hD1
      clear hP hD hPc hDc hKc hFc hP1 hK1 hD1 hk1 hz1
      generalize H1 = H at hP2 hS ⊢
      have hP := hP2.sub (ws' := (wd_1ad0248d h0 h1 h3 v0 h1 h2 v1 x33 v3 v4 h2 g0 f5 h3 g1 f6)) [0, 3, 1, 2] rfl
      have hD := hD2.sub (ws' := (wd_1ad0248d h0 h1 h3 v0 h1 h2 v1 x33 v3 v4 h2 g0 f5 h3 g1 f6)) [0, 3, 1, 2] (by decide) rfl
      clear hP2 hD2
      refine lv_aload_n hx hb dX3_readAtom_27 rfl (lv_at hl 1 rfl) ?_
      refine lv_iload_n hx hb dX3_readAtom_28 rfl (lv_at hl 2 rfl) ?_
      refine lv_iconst (v := 1) hx hb dX3_readAtom_29 (by decide) ?_
      refine lv_iadd hx hb dX3_readAtom_30 ?_
      refine lv_topi (fun tv34 etv34 => ?_)
      obtain rfl : tv34 = (6 : Int32) := etv34.trans (by first | rfl | decide)
      have hPc := hP.sub (ws' := (wd_1ad0248d h0 h1 h3 v0 h1 h2 v1 x33 v3 v4 h2 g0 f5 h3 g1 f6)) [0, 1, 2, 3] rfl
      have hDc := hD.sub (ws' := (wd_1ad0248d h0 h1 h3 v0 h1 h2 v1 x33 v3 v4 h2 g0 f5 h3 g1 f6)) [0, 1, 2, 3] (by decide) rfl
      have hKc := hK.sub (tys' := [(g0, .int), (g1, .int)]) [0, 1] rfl
      have hFc := va_free (wc := (wd_1ad0248d h0 h1 h3 v0 h1 h2 v1 x33 v3 v4 h2 g0 f5 h3 g1 f6)) hD hS hA [0, 1, 2, 3] rfl
      refine va_calli (va_runV (As := [.int 6]) (rest := []) ⟨hx, hb, hml, hown, hts⟩ (k_X3_readSum l dC dI adK adV h0 h1 h2 h3 v0 v1 x33 v3 v4 g0 f5 g1 f6 ⟨i_v0a, i_v0b⟩ ⟨i_v1a, i_v1b⟩ ⟨by first | omega | decide, ob_x33⟩ ia_f5 H.size) (cwV 1 hts g_X3_readAtom_1_12 rfl rfl rfl (by decide +kernel) ⟨Nat.le_of_ble_eq_true rfl, Nat.le_of_ble_eq_true rfl⟩) ⟨fun a U g mk q => by obtain ⟨q0, q1, qP, qK, qD, n0, n1, n2⟩ := q; exact ⟨q0, q1, qP, va_K.moved (u := U) (U := U.calling g mk a) (Vm.Alike.refl U.vm) qK, qD, vk_R.same rfl n0, va_Z.moved (Vm.Alike.refl _) n1, vk_S.moved (Vm.Alike.refl _) n2⟩, pv_rc3 hKc hPc (q0 := 0) rfl, fun U hU hW => ⟨rfl, by rw [hU], by rw [hU]; exact hPc, va_K.moved hW.alike hKc, hDc.weaken (fun _ _ _ _ => trivial), vk_R.warm hW h_vr_2, (by rw [hU]; exact (va_Z.moved hW.alike (va_Z.kept h_st_CS hS.2.1)).narrow hFc), (by rw [hU]; exact (vk_S.moved hW.alike (vk_S.kept h_st_S hS.2.1)).narrow hFc)⟩⟩ rfl rfl hl.1 rfl (lv_room (Nat.le_of_ble_eq_true rfl)) dX3_readAtom_31 ⟨Nat.le_of_ble_eq_true rfl, Nat.le_of_ble_eq_true rfl⟩) hS (fun q _ h => hFc q h) hFc (fun ra35 u t H1 locs ht hvm hwra35 hB hz1 hk1 hS => ?_)
      try rw [hwra35] at hB
      rcases hB with hB | hB
      · skip
        obtain ⟨x36, x37, x38, fn39, oa_x36, ob_x36, oa_x37, ob_x37, pt0_ra35, pt1_ra35, pt2_ra35, pt3_ra35, hP1, hK1, hD1⟩ := hB
        rw [ht] at hP1
        obtain ⟨hP2, hD2⟩ := va_join (wr := []) (w1 := (wd_1ad0248d h0 h1 h3 x36 h1 h2 v1 x37 v3 x38 h2 g0 f5 h3 g1 fn39)) hP hD [0, 1, 2, 3] [] rfl rfl (by decide) (by decide) hk1 hFc hP1 hD1
        clear hP hD hPc hDc hKc hFc hP1 hK1 hD1 hk1 hz1
        generalize H1 = H at hP2 hS ⊢
        have hP : va_P (dC, dI) vwCl (wd_1ad0248d h0 h1 h3 x36 h1 h2 v1 x37 v3 x38 h2 g0 f5 h3 g1 fn39) H := hP2
        have hD : va_D A (wd_1ad0248d h0 h1 h3 x36 h1 h2 v1 x37 v3 x38 h2 g0 f5 h3 g1 fn39) := hD2
        clear hP2 hD2
        obtain rfl : ra35 = (1 : Int32) := pv_cs (by decide) pt0_ra35 pt1_ra35
        refine lv_if_eq (tgt := 53) hx hb dX3_readAtom_34 (by decide) (fun c => absurd c (by decide)) (fun _ => ?_)
        refine lv_aload_n hx hb dX3_readAtom_37 rfl (lv_at hl 1 rfl) ?_
        refine va_get (D := (dC, dI)) (ci := 3) (v := .ref h1) (C := RX3) (T := TX3) (N := 3) hx hb hts (fun _ h => List.mem_cons_of_mem _ (List.mem_append_left _ (List.mem_append_right _ h))) hown hK hP 0 rfl rfl 0 (by decide) (hts (.fieldLink RX3 19 "LeftArguments$LawReader" "tape" "LLeftArguments$Tape;") (List.mem_cons_of_mem _ (List.mem_append_left _ (List.mem_append_left _ (List.mem_of_getElem? (i := 0) rfl))))) (fun _ h9 => h9) rfl dX3_readAtom_38 ?_
        refine lv_bipush (v := 93) hx hb dX3_readAtom_41 (by decide) ?_
        have hPc := hP.sub (ws' := (wd_82cdd16b h1 h2 v1 x37 v3 x38 h2 g0 f5)) [1, 2] rfl
        have hDc := hD.sub (ws' := (wd_82cdd16b h1 h2 v1 x37 v3 x38 h2 g0 f5)) [1, 2] (by decide) rfl
        have hKc := hK.sub (tys' := [(g0, .int)]) [0] rfl
        have hFc := va_free (wc := (wd_82cdd16b h1 h2 v1 x37 v3 x38 h2 g0 f5)) hD hS hA [1, 2] rfl
        refine va_calli (va_runV (As := [.int 93]) (rest := []) ⟨hx, hb, hml, hown, hts⟩ (k_X10_take_2 l dC dI h1 h2 v1 x37 v3 x38 g0 f5 ⟨i_v1a, i_v1b⟩ ⟨oa_x37, ob_x37⟩ ia_f5 H.size) (cwV 1 hts g_X3_readAtom_1_13 rfl rfl rfl (by decide +kernel) ⟨Nat.le_of_ble_eq_true rfl, Nat.le_of_ble_eq_true rfl⟩) (pv_PV10 hPc hKc hDc (q0 := 0) rfl) rfl rfl hl.1 rfl (lv_room (Nat.le_of_ble_eq_true rfl)) dX3_readAtom_43 ⟨Nat.le_of_ble_eq_true rfl, Nat.le_of_ble_eq_true rfl⟩) hS (fun q _ h => hFc q h) hFc (fun ra40 u t H1 locs ht hvm hwra40 hB hz1 hk1 hS => ?_)
        try rw [hwra40] at hB
        rcases hB with hB | hB
        · skip
          obtain ⟨x41, oa_x41, ob_x41, pt0_ra40, pt1_ra40, pt2_ra40, pt3_ra40, hP1, hK1, hD1⟩ := hB
          rw [ht] at hP1
          obtain ⟨hP2, hD2⟩ := va_join (wr := (wd_b958b9da h0 h1 h3 x36 h3 g1 fn39)) (w1 := (wd_82cdd16b h1 h2 v1 x41 v3 x38 h2 g0 f5)) hP hD [1, 2] [0, 3] rfl rfl (by decide) (by decide) hk1 hFc hP1 hD1
          clear hP hD hPc hDc hKc hFc hP1 hK1 hD1 hk1 hz1
          generalize H1 = H at hP2 hS ⊢
          have hP := hP2.sub (ws' := (wd_1ad0248d h0 h1 h3 x36 h1 h2 v1 x41 v3 x38 h2 g0 f5 h3 g1 fn39)) [0, 2, 3, 1] rfl
          have hD := hD2.sub (ws' := (wd_1ad0248d h0 h1 h3 x36 h1 h2 v1 x41 v3 x38 h2 g0 f5 h3 g1 fn39)) [0, 2, 3, 1] (by decide) rfl
          clear hP2 hD2
          obtain rfl : ra40 = (1 : Int32) := pv_cs (by decide) pt0_ra40 pt1_ra40
          refine lv_if_eq (tgt := 53) hx hb dX3_readAtom_46 (by decide) (fun c => absurd c (by decide)) (fun _ => ?_)
          refine lv_iconst (v := 1) hx hb dX3_readAtom_49 (by decide) ?_
          refine lv_goto (tgt := 54) hx hb dX3_readAtom_50 (by decide) ?_
          subst hQ
          have hP9 := hP.sub (ws' := (wd_1ad0248d h0 h1 h3 x36 h1 h2 v1 x41 v3 x38 h2 g0 f5 h3 g1 fn39)) [0, 1, 2, 3] rfl
          have hD9 := hD.sub (ws' := (wd_1ad0248d h0 h1 h3 x36 h1 h2 v1 x41 v3 x38 h2 g0 f5 h3 g1 fn39)) [0, 1, 2, 3] (by decide) rfl
          have hK9 := hK.sub (tys' := []) [] rfl
          exact W.zret (v := 1) hx hb hr rfl (fun t ht hW => ⟨⟨1, 1, rfl, rfl, Or.inl ⟨x36, x41, x38, fn39, oa_x36, ob_x36, by first | omega | decide, ob_x41, by first | omega | decide, by first | omega | decide, by omega, by show pg_atomF f5 v1.toInt true (pg_sum f5 v1.toInt 0) _ = _; first | (apply pg_atomF.nmc <;> first | assumption | omega) | (apply pg_atomF.nmf <;> first | assumption | omega) | (apply pg_atomF.num <;> first | assumption | omega) | (apply pg_atomF.lt <;> first | assumption | omega) | (apply pg_atomF.par1 <;> first | assumption | omega) | (apply pg_atomF.par0 <;> first | assumption | omega) | (apply pg_atomF.deep <;> first | assumption | omega) | (apply pg_atomF.bdn <;> first | assumption | omega) | (apply pg_atomF.bad <;> first | assumption | omega), by rw [ht]; exact hP9, va_K.moved hW.alike hK9, hD9⟩⟩, hS.F ht⟩) hS.2.2 dX3_readAtom_54
        · skip
          obtain ⟨x42, x43, oa_x42, ob_x42, oa_x43, ob_x43, pt0_ra40, pt1_ra40, pt2_ra40, pt3_ra40, hP1, hK1, hD1⟩ := hB
          rw [ht] at hP1
          obtain ⟨hP2, hD2⟩ := va_join (wr := (wd_b958b9da h0 h1 h3 x36 h3 g1 fn39)) (w1 := (wd_82cdd16b h1 h2 v1 x42 x43 x38 h2 g0 f5)) hP hD [1, 2] [0, 3] rfl rfl (by decide) (by decide) hk1 hFc hP1 hD1
          clear hP hD hPc hDc hKc hFc hP1 hK1 hD1 hk1 hz1
          generalize H1 = H at hP2 hS ⊢
          have hP := hP2.sub (ws' := (wd_1ad0248d h0 h1 h3 x36 h1 h2 v1 x42 x43 x38 h2 g0 f5 h3 g1 fn39)) [0, 2, 3, 1] rfl
          have hD := hD2.sub (ws' := (wd_1ad0248d h0 h1 h3 x36 h1 h2 v1 x42 x43 x38 h2 g0 f5 h3 g1 fn39)) [0, 2, 3, 1] (by decide) rfl
          clear hP2 hD2
          obtain rfl : ra40 = (0 : Int32) := pv_cs (by decide) pt0_ra40 pt1_ra40
          refine lv_if_eq (tgt := 53) hx hb dX3_readAtom_46 (by decide) (fun _ => ?_) (fun c => absurd (by decide) c)
          refine lv_iconst (v := 0) hx hb dX3_readAtom_53 (by decide) ?_
          subst hQ
          have hP9 := hP.sub (ws' := (wd_1ad0248d h0 h1 h3 x36 h1 h2 v1 x42 x43 x38 h2 g0 f5 h3 g1 fn39)) [0, 1, 2, 3] rfl
          have hD9 := hD.sub (ws' := (wd_1ad0248d h0 h1 h3 x36 h1 h2 v1 x42 x43 x38 h2 g0 f5 h3 g1 fn39)) [0, 1, 2, 3] (by decide) rfl
          have hK9 := hK.sub (tys' := []) [] rfl
          exact W.zret (v := 0) hx hb hr rfl (fun t ht hW => ⟨⟨0, 0, rfl, rfl, Or.inr (⟨x36, x42, x43, x38, fn39, oa_x36, ob_x36, oa_x42, ob_x42, oa_x43, ob_x43, by first | omega | decide, by first | omega | decide, by omega, by show pg_atomF f5 v1.toInt true (pg_sum f5 v1.toInt 0) _ = _; first | (apply pg_atomF.nmc <;> first | assumption | omega) | (apply pg_atomF.nmf <;> first | assumption | omega) | (apply pg_atomF.num <;> first | assumption | omega) | (apply pg_atomF.lt <;> first | assumption | omega) | (apply pg_atomF.par1 <;> first | assumption | omega) | (apply pg_atomF.par0 <;> first | assumption | omega) | (apply pg_atomF.deep <;> first | assumption | omega) | (apply pg_atomF.bdn <;> first | assumption | omega) | (apply pg_atomF.bad <;> first | assumption | omega), by rw [ht]; exact hP9, va_K.moved hW.alike hK9, hD9⟩)⟩, hS.F ht⟩) hS.2.2 dX3_readAtom_54
      · skip
        obtain ⟨x44, x45, x46, x47, fn48, oa_x44, ob_x44, oa_x45, ob_x45, oa_x46, ob_x46, pt0_ra35, pt1_ra35, pt2_ra35, pt3_ra35, hP1, hK1, hD1⟩ := hB
        rw [ht] at hP1
        obtain ⟨hP2, hD2⟩ := va_join (wr := []) (w1 := (wd_1ad0248d h0 h1 h3 x44 h1 h2 v1 x45 x46 x47 h2 g0 f5 h3 g1 fn48)) hP hD [0, 1, 2, 3] [] rfl rfl (by decide) (by decide) hk1 hFc hP1 hD1
        clear hP hD hPc hDc hKc hFc hP1 hK1 hD1 hk1 hz1
        generalize H1 = H at hP2 hS ⊢
        have hP : va_P (dC, dI) vwCl (wd_1ad0248d h0 h1 h3 x44 h1 h2 v1 x45 x46 x47 h2 g0 f5 h3 g1 fn48) H := hP2
        have hD : va_D A (wd_1ad0248d h0 h1 h3 x44 h1 h2 v1 x45 x46 x47 h2 g0 f5 h3 g1 fn48) := hD2
        clear hP2 hD2
        obtain rfl : ra35 = (0 : Int32) := pv_cs (by decide) pt0_ra35 pt1_ra35
        refine lv_if_eq (tgt := 53) hx hb dX3_readAtom_34 (by decide) (fun _ => ?_) (fun c => absurd (by decide) c)
        refine lv_iconst (v := 0) hx hb dX3_readAtom_53 (by decide) ?_
        subst hQ
        have hP9 := hP.sub (ws' := (wd_1ad0248d h0 h1 h3 x44 h1 h2 v1 x45 x46 x47 h2 g0 f5 h3 g1 fn48)) [0, 1, 2, 3] rfl
        have hD9 := hD.sub (ws' := (wd_1ad0248d h0 h1 h3 x44 h1 h2 v1 x45 x46 x47 h2 g0 f5 h3 g1 fn48)) [0, 1, 2, 3] (by decide) rfl
        have hK9 := hK.sub (tys' := []) [] rfl
        exact W.zret (v := 0) hx hb hr rfl (fun t ht hW => ⟨⟨0, 0, rfl, rfl, Or.inr (⟨x44, x45, x46, x47, fn48, oa_x44, ob_x44, oa_x45, ob_x45, oa_x46, ob_x46, by first | omega | decide, by first | omega | decide, by omega, by show pg_atomF f5 v1.toInt true (pg_sum f5 v1.toInt 0) _ = _; first | (apply pg_atomF.nmc <;> first | assumption | omega) | (apply pg_atomF.nmf <;> first | assumption | omega) | (apply pg_atomF.num <;> first | assumption | omega) | (apply pg_atomF.lt <;> first | assumption | omega) | (apply pg_atomF.par1 <;> first | assumption | omega) | (apply pg_atomF.par0 <;> first | assumption | omega) | (apply pg_atomF.deep <;> first | assumption | omega) | (apply pg_atomF.bdn <;> first | assumption | omega) | (apply pg_atomF.bad <;> first | assumption | omega), by rw [ht]; exact hP9, va_K.moved hW.alike hK9, hD9⟩)⟩, hS.F ht⟩) hS.2.2 dX3_readAtom_54
def q_X3_readTerm_1 : List Cond := .code yX3_readTerm cX3_readTerm 4 (some .boolean) :: (([.code yX3_readAtom cX3_readAtom 4 (some .boolean), .fieldLink RX3 19 "LeftArguments$LawReader" "tape" "LLeftArguments$Tape;", .code yX10_next cX10_next 1 (some .int), .fieldLink RX10 19 "LeftArguments$Tape" "at" "I", .fieldLink RX10 15 "LeftArguments$Tape" "used" "I", .fieldLink RX10 9 "LeftArguments$Tape" "bytes" "[I", .initialized RX10, .instanceMethod yX10_next, .selects RX10 yX10_next yX10_next, .methodLink RX3 48 yX10_next, .code yX10_isDigit cX10_isDigit 1 (some .boolean), .static yX10_isDigit, .methodLink RX3 92 yX10_isDigit, .code yX10_wrongHere cX10_wrongHere 1 (some .boolean), .fieldLink RX10 22 "LeftArguments$Tape" "wrongAt" "I", .instanceMethod yX10_wrongHere, .selects RX10 yX10_wrongHere yX10_wrongHere, .methodLink RX3 83 yX10_wrongHere, .code yJ0_indexOf_0f7a4 cJ0_indexOf_0f7a4 2 (some .int), .code yJ0_indexOf_7cf53 cJ0_indexOf_7cf53 3 (some .int), .code yJ0_isLatin1_aae02 cJ0_isLatin1_aae02 1 (some .boolean), .fieldLink RJ0 38 "java/lang/String" "COMPACT_STRINGS" "Z", .fieldLink RJ0 15 "java/lang/String" "coder" "B", .initialized RJ0, .instanceMethod yJ0_isLatin1_aae02, .selects RJ0 yJ0_isLatin1_aae02 yJ0_isLatin1_aae02, .methodLink RJ0 492 yJ0_isLatin1_aae02, .fieldLink RJ0 9 "java/lang/String" "value" "[B", .code yJ0_length_8abf5 cJ0_length_8abf5 1 (some .int), .code yJ0_coder_7d493 cJ0_coder_7d493 1 (some .byte), .instanceMethod yJ0_coder_7d493, .selects RJ0 yJ0_coder_7d493 yJ0_coder_7d493, .methodLink RJ0 335 yJ0_coder_7d493, .instanceMethod yJ0_length_8abf5, .selects RJ0 yJ0_length_8abf5 yJ0_length_8abf5, .methodLink RJ0 505 yJ0_length_8abf5, .code yJ1_indexOf_4cfef cJ1_indexOf_4cfef 4 (some .int), .code yJ1_canEncode_9a6ad cJ1_canEncode_9a6ad 1 (some .boolean), .initialized RJ1, .static yJ1_canEncode_9a6ad, .methodLink RJ1 88 yJ1_canEncode_9a6ad, .methodLink RJ1 92 Lib.Math.max.name, .static Lib.Math.max.name, .initialized "java/lang/Math", .code Lib.Math.max.name Lib.Math.max.code 2 (some .int), .methodLink RJ1 38 Lib.Math.min.name, .static Lib.Math.min.name, .code Lib.Math.min.name Lib.Math.min.code 2 (some .int), .code yJ1_indexOfChar_4cfef cJ1_indexOfChar_4cfef 6 (some .int), .static yJ1_indexOfChar_4cfef, .methodLink RJ1 95 yJ1_indexOfChar_4cfef, .static yJ1_indexOf_4cfef, .methodLink RJ0 637 yJ1_indexOf_4cfef, .instanceMethod yJ0_indexOf_7cf53, .selects RJ0 yJ0_indexOf_7cf53 yJ0_indexOf_7cf53, .methodLink RJ0 633 yJ0_indexOf_7cf53, .instanceMethod yJ0_indexOf_0f7a4, .selects RJ0 yJ0_indexOf_0f7a4 yJ0_indexOf_0f7a4, .methodLink RX3 103 yJ0_indexOf_0f7a4, .code yX10_step cX10_step 1 none, .instanceMethod yX10_step, .selects RX10 yX10_step yX10_step, .methodLink RX3 77 yX10_step, .code yX3_write cX3_write 3 none, .fieldLink RX3 15 "LeftArguments$LawReader" "used" "I", .fieldLink RX3 11 "LeftArguments$LawReader" "code" "[I", .initialized RX3, .instanceMethod yX3_write, .selects RX3 yX3_write yX3_write, .methodLink RX3 66 yX3_write, .code yX10_takeNumber cX10_takeNumber 3 (some .boolean), .methodLink RX10 37 yX10_next, .methodLink RX10 45 yX10_isDigit, .methodLink RX10 41 yX10_wrongHere, .fieldLink RX10 25 "LeftArguments$Tape" "number" "I", .code yX10_sign cX10_sign 1 (some .int), .instanceMethod yX10_sign, .selects RX10 yX10_sign yX10_sign, .methodLink RX10 49 yX10_sign, .instanceMethod yX10_takeNumber, .selects RX10 yX10_takeNumber yX10_takeNumber, .methodLink RX3 95 yX10_takeNumber, .code yX10_number cX10_number 1 (some .int), .instanceMethod yX10_number, .selects RX10 yX10_number yX10_number, .methodLink RX3 98 yX10_number, .code yX3_readSum cX3_readSum 4 (some .boolean), .code yX3_readTerm cX3_readTerm 4 (some .boolean), .instanceMethod yX3_readAtom, .selects RX3 yX3_readAtom yX3_readAtom, .methodLink RX3 89 yX3_readAtom, .instanceMethod yX3_readTerm, .selects RX3 yX3_readTerm yX3_readTerm, .methodLink RX3 86 yX3_readTerm, .instanceMethod yX3_readSum, .selects RX3 yX3_readSum yX3_readSum, .methodLink RX3 59 yX3_readSum, .code yX10_take cX10_take 2 (some .boolean), .instanceMethod yX10_take, .selects RX10 yX10_take yX10_take, .methodLink RX3 51 yX10_take] : List Cond) ++ wsX30 ++ wsX100)
set_option maxRecDepth 20000 in
theorem g_X3_readTerm_1_0 : GoodIn q_X3_readTerm_1 (wsV RX3 89 RX3 yX3_readAtom q_X3_readAtom_1) := goodIn_app (goodIn_r _ [91, 89, 90, 67] rfl (by decide +kernel)) (goodIn_ca (goodIn_ca (goodIn_r (.code yX3_readAtom cX3_readAtom 4 (some .boolean) :: [.fieldLink RX3 19 "LeftArguments$LawReader" "tape" "LLeftArguments$Tape;", .code yX10_next cX10_next 1 (some .int), .fieldLink RX10 19 "LeftArguments$Tape" "at" "I", .fieldLink RX10 15 "LeftArguments$Tape" "used" "I", .fieldLink RX10 9 "LeftArguments$Tape" "bytes" "[I", .initialized RX10, .instanceMethod yX10_next, .selects RX10 yX10_next yX10_next, .methodLink RX3 48 yX10_next, .code yX10_isDigit cX10_isDigit 1 (some .boolean), .static yX10_isDigit, .methodLink RX3 92 yX10_isDigit, .code yX10_wrongHere cX10_wrongHere 1 (some .boolean), .fieldLink RX10 22 "LeftArguments$Tape" "wrongAt" "I", .instanceMethod yX10_wrongHere, .selects RX10 yX10_wrongHere yX10_wrongHere, .methodLink RX3 83 yX10_wrongHere, .code yJ0_indexOf_0f7a4 cJ0_indexOf_0f7a4 2 (some .int), .code yJ0_indexOf_7cf53 cJ0_indexOf_7cf53 3 (some .int), .code yJ0_isLatin1_aae02 cJ0_isLatin1_aae02 1 (some .boolean), .fieldLink RJ0 38 "java/lang/String" "COMPACT_STRINGS" "Z", .fieldLink RJ0 15 "java/lang/String" "coder" "B", .initialized RJ0, .instanceMethod yJ0_isLatin1_aae02, .selects RJ0 yJ0_isLatin1_aae02 yJ0_isLatin1_aae02, .methodLink RJ0 492 yJ0_isLatin1_aae02, .fieldLink RJ0 9 "java/lang/String" "value" "[B", .code yJ0_length_8abf5 cJ0_length_8abf5 1 (some .int), .code yJ0_coder_7d493 cJ0_coder_7d493 1 (some .byte), .instanceMethod yJ0_coder_7d493, .selects RJ0 yJ0_coder_7d493 yJ0_coder_7d493, .methodLink RJ0 335 yJ0_coder_7d493, .instanceMethod yJ0_length_8abf5, .selects RJ0 yJ0_length_8abf5 yJ0_length_8abf5, .methodLink RJ0 505 yJ0_length_8abf5, .code yJ1_indexOf_4cfef cJ1_indexOf_4cfef 4 (some .int), .code yJ1_canEncode_9a6ad cJ1_canEncode_9a6ad 1 (some .boolean), .initialized RJ1, .static yJ1_canEncode_9a6ad, .methodLink RJ1 88 yJ1_canEncode_9a6ad, .methodLink RJ1 92 Lib.Math.max.name, .static Lib.Math.max.name, .initialized "java/lang/Math", .code Lib.Math.max.name Lib.Math.max.code 2 (some .int), .methodLink RJ1 38 Lib.Math.min.name, .static Lib.Math.min.name, .code Lib.Math.min.name Lib.Math.min.code 2 (some .int), .code yJ1_indexOfChar_4cfef cJ1_indexOfChar_4cfef 6 (some .int), .static yJ1_indexOfChar_4cfef, .methodLink RJ1 95 yJ1_indexOfChar_4cfef, .static yJ1_indexOf_4cfef, .methodLink RJ0 637 yJ1_indexOf_4cfef, .instanceMethod yJ0_indexOf_7cf53, .selects RJ0 yJ0_indexOf_7cf53 yJ0_indexOf_7cf53, .methodLink RJ0 633 yJ0_indexOf_7cf53, .instanceMethod yJ0_indexOf_0f7a4, .selects RJ0 yJ0_indexOf_0f7a4 yJ0_indexOf_0f7a4, .methodLink RX3 103 yJ0_indexOf_0f7a4, .code yX10_step cX10_step 1 none, .instanceMethod yX10_step, .selects RX10 yX10_step yX10_step, .methodLink RX3 77 yX10_step, .code yX3_write cX3_write 3 none, .fieldLink RX3 15 "LeftArguments$LawReader" "used" "I", .fieldLink RX3 11 "LeftArguments$LawReader" "code" "[I", .initialized RX3, .instanceMethod yX3_write, .selects RX3 yX3_write yX3_write, .methodLink RX3 66 yX3_write, .code yX10_takeNumber cX10_takeNumber 3 (some .boolean), .methodLink RX10 37 yX10_next, .methodLink RX10 45 yX10_isDigit, .methodLink RX10 41 yX10_wrongHere, .fieldLink RX10 25 "LeftArguments$Tape" "number" "I", .code yX10_sign cX10_sign 1 (some .int), .instanceMethod yX10_sign, .selects RX10 yX10_sign yX10_sign, .methodLink RX10 49 yX10_sign, .instanceMethod yX10_takeNumber, .selects RX10 yX10_takeNumber yX10_takeNumber, .methodLink RX3 95 yX10_takeNumber, .code yX10_number cX10_number 1 (some .int), .instanceMethod yX10_number, .selects RX10 yX10_number yX10_number, .methodLink RX3 98 yX10_number, .code yX3_readSum cX3_readSum 4 (some .boolean), .code yX3_readTerm cX3_readTerm 4 (some .boolean), .code yX3_readAtom cX3_readAtom 4 (some .boolean), .instanceMethod yX3_readAtom, .selects RX3 yX3_readAtom yX3_readAtom, .methodLink RX3 89 yX3_readAtom, .instanceMethod yX3_readTerm, .selects RX3 yX3_readTerm yX3_readTerm, .methodLink RX3 86 yX3_readTerm, .instanceMethod yX3_readSum, .selects RX3 yX3_readSum yX3_readSum, .methodLink RX3 59 yX3_readSum, .code yX10_take cX10_take 2 (some .boolean), .instanceMethod yX10_take, .selects RX10 yX10_take yX10_take, .methodLink RX3 51 yX10_take]) [1, 2, 3, 4, 5, 6, 7, 8, 9, 10, 11, 12, 13, 14, 15, 16, 17, 18, 19, 20, 21, 22, 23, 24, 25, 26, 27, 28, 29, 30, 31, 32, 33, 34, 35, 36, 37, 38, 39, 40, 41, 42, 43, 44, 45, 46, 47, 48, 49, 50, 51, 52, 53, 54, 55, 56, 57, 58, 59, 60, 61, 62, 63, 64, 65, 66, 67, 68, 69, 70, 71, 72, 73, 74, 75, 76, 77, 78, 79, 80, 81, 82, 83, 84, 85, 86, 87, 88, 1, 89, 90, 91, 92, 93, 94, 95, 96, 97, 98, 99, 100, 101] rfl (by decide +kernel)) (goodIn_sub (fun _ h => List.mem_cons_of_mem _ (List.mem_append_left _ (List.mem_append_right _ h))) gwX3)) (goodIn_sub (fun _ h => List.mem_cons_of_mem _ (List.mem_append_right _ h)) gwX10))
set_option maxRecDepth 20000 in
theorem g_X3_readTerm_1_1 : GoodIn q_X3_readTerm_1 (wsV RX3 48 RX10 yX10_next q_X10_next) := goodIn_app (goodIn_r _ [10, 8, 9, 7] rfl (by decide +kernel)) (goodIn_ca (goodIn_r (.code yX10_next cX10_next 1 (some .int) :: [.fieldLink RX10 19 "LeftArguments$Tape" "at" "I", .fieldLink RX10 15 "LeftArguments$Tape" "used" "I", .fieldLink RX10 9 "LeftArguments$Tape" "bytes" "[I"]) [3, 4, 5, 6] rfl (by decide +kernel)) (goodIn_sub (fun _ h => List.mem_cons_of_mem _ (List.mem_append_right _ h)) gwX10))
set_option maxRecDepth 20000 in
theorem g_X3_readTerm_1_2 : GoodIn q_X3_readTerm_1 (wsV RX3 77 RX10 yX10_step q_X10_step) := goodIn_app (goodIn_r _ [63, 61, 62, 7] rfl (by decide +kernel)) (goodIn_ca (goodIn_r (.code yX10_step cX10_step 1 none :: [.fieldLink RX10 19 "LeftArguments$Tape" "at" "I"]) [60, 4] rfl (by decide +kernel)) (goodIn_sub (fun _ h => List.mem_cons_of_mem _ (List.mem_append_right _ h)) gwX10))
set_option maxRecDepth 20000 in
theorem g_X3_readTerm_1_4 : GoodIn q_X3_readTerm_1 (wsV RX3 66 RX3 yX3_write q_X3_write) := goodIn_app (goodIn_r _ [70, 68, 69, 67] rfl (by decide +kernel)) (goodIn_ca (goodIn_r (.code yX3_write cX3_write 3 none :: [.fieldLink RX3 15 "LeftArguments$LawReader" "used" "I", .fieldLink RX3 11 "LeftArguments$LawReader" "code" "[I"]) [64, 65, 66] rfl (by decide +kernel)) (goodIn_sub (fun _ h => List.mem_cons_of_mem _ (List.mem_append_left _ (List.mem_append_right _ h))) gwX3))
set_option maxHeartbeats 4000000 in
set_option maxRecDepth 100000 in
theorem k_X3_readTerm_1 (l : Launch) (dC : Nat → ClassId) (dI : Nat → Nat → Nat) (adK : Nat → Nat) (adV : Nat → Nat) (h0 : Nat) (h1 : Nat) (h2 : Nat) (h3 : Nat) (v0 : Int32) (v1 : Int32) (v2 : Int32) (v3 : Int32) (v4 : Int32) (g0 : ClassId) (f5 : Nat → Int32) (g1 : ClassId) (f6 : Nat → Int32) (i_v0 : 0 ≤ v0.toInt ∧ v0.toInt ≤ 256) (i_v1 : 0 ≤ v1.toInt ∧ v1.toInt ≤ 240) (i_v2 : 0 ≤ v2.toInt ∧ v2.toInt ≤ 240) (ia_f5 : (∀ j, 0 ≤ (f5 j).toInt ∧ (f5 j).toInt ≤ 255)) (sz : Nat) : Met l yX3_readTerm q_X3_readTerm_1 ({ frames := 8, cells := 0, slots := 0, locals := 183 }) (va_Pc [.ref h0, .int 5] (fun U => U.heap.size = sz ∧ va_P (dC, dI) vwCl (wd_1ad0248d h0 h1 h3 v0 h1 h2 v1 v2 v3 v4 h2 g0 f5 h3 g1 f6) U.heap ∧ va_K (dC, dI) vwCl [(g0, .int), (g1, .int)] U ∧ va_D (fun _ => True) (wd_1ad0248d h0 h1 h3 v0 h1 h2 v1 v2 v3 v4 h2 g0 f5 h3 g1 f6) ∧ vk_R RX3 101 "zaondt" (adK 2) U ∧ va_Z "java/lang/String" "COMPACT_STRINGS" "Z" (.int 1) (va_A (wd_1ad0248d h0 h1 h3 v0 h1 h2 v1 v2 v3 v4 h2 g0 f5 h3 g1 f6) sz) U U.heap ∧ vk_S 3 pv_len3 pv_byt3 adK adV (va_A (wd_1ad0248d h0 h1 h3 v0 h1 h2 v1 v2 v3 v4 h2 g0 f5 h3 g1 f6) sz) U U.heap)) (va_Qi (fun (r : Int32) (r9 : Int32) => r9 = r) (fun (r : Int32) (t : State) => (∃ (o_h0_2 : Int32) (o_h1_2 : Int32) (o_h1_4 : Int32) (o_h3 : Nat → Int32), 0 ≤ o_h0_2.toInt ∧ o_h0_2.toInt ≤ 256 ∧ 0 ≤ o_h1_2.toInt ∧ o_h1_2.toInt ≤ 240 ∧ (1 ≤ r.toInt) ∧ (r.toInt ≤ 1) ∧ (v2.toInt ≤ o_h1_2.toInt) ∧ (pg_term f5 v1.toInt 1 v2.toInt = (true, o_h1_2.toInt)) ∧ va_P (dC, dI) vwCl (wd_1ad0248d h0 h1 h3 o_h0_2 h1 h2 v1 o_h1_2 v3 o_h1_4 h2 g0 f5 h3 g1 o_h3) t.heap ∧ va_K (dC, dI) vwCl [] t ∧ va_D (va_A (wd_1ad0248d h0 h1 h3 v0 h1 h2 v1 v2 v3 v4 h2 g0 f5 h3 g1 f6) sz) (wd_1ad0248d h0 h1 h3 o_h0_2 h1 h2 v1 o_h1_2 v3 o_h1_4 h2 g0 f5 h3 g1 o_h3)) ∨ (∃ (o_h0_2 : Int32) (o_h1_2 : Int32) (o_h1_3 : Int32) (o_h1_4 : Int32) (o_h3 : Nat → Int32), 0 ≤ o_h0_2.toInt ∧ o_h0_2.toInt ≤ 256 ∧ 0 ≤ o_h1_2.toInt ∧ o_h1_2.toInt ≤ 240 ∧ 0 ≤ o_h1_3.toInt ∧ o_h1_3.toInt ≤ 240 ∧ (0 ≤ r.toInt) ∧ (r.toInt ≤ 0) ∧ (v2.toInt ≤ o_h1_2.toInt) ∧ (pg_term f5 v1.toInt 1 v2.toInt = (false, o_h1_3.toInt)) ∧ va_P (dC, dI) vwCl (wd_1ad0248d h0 h1 h3 o_h0_2 h1 h2 v1 o_h1_2 o_h1_3 o_h1_4 h2 g0 f5 h3 g1 o_h3) t.heap ∧ va_K (dC, dI) vwCl [] t ∧ va_D (va_A (wd_1ad0248d h0 h1 h3 v0 h1 h2 v1 v2 v3 v4 h2 g0 f5 h3 g1 f6) sz) (wd_1ad0248d h0 h1 h3 o_h0_2 h1 h2 v1 o_h1_2 o_h1_3 o_h1_4 h2 g0 f5 h3 g1 o_h3))) (va_A (wd_1ad0248d h0 h1 h3 v0 h1 h2 v1 v2 v3 v4 h2 g0 f5 h3 g1 f6) sz)) 0 0 (va_A (wd_1ad0248d h0 h1 h3 v0 h1 h2 v1 v2 v3 v4 h2 g0 f5 h3 g1 f6) sz) := by
  refine Met.ofW (cc := cX3_readTerm) (maxL := 4) (ret := (some .boolean)) (by decide) rfl ?_
  intro p e s m args below meth c s₁ B hml hv
  obtain ⟨i_v0a, i_v0b⟩ := i_v0
  obtain ⟨i_v1a, i_v1b⟩ := i_v1
  obtain ⟨i_v2a, i_v2b⟩ := i_v2
  obtain ⟨rfl, hsz, hP, hK, hD0, h_vr_2, h_st_CS, h_st_S⟩ := hv
  have hx := B.exec
  have hb := B.bytes
  have hr := B.returns
  have hts := atoms_spec (ws := q_X3_readTerm_1) B.pre
  have hown : s.vm.findClass RX3 = some m.cls := findClass_of_methodNamed B.named
  have hlocks := B.notSynchronized
  subst hsz
  have hD := hD0.self (sz := s.heap.size)
  generalize hAe : va_A (wd_1ad0248d h0 h1 h3 v0 h1 h2 v1 v2 v3 v4 h2 g0 f5 h3 g1 f6) s.heap.size = A at hD h_st_CS h_st_S ⊢
  have hA : ∀ q : Nat, s.heap.size ≤ q → A q := fun q h => by rw [← hAe]; exact Or.inr h
  have hS : va_S A s.heap s.heap [] := va_S.rf
  generalize hQ : (MQ below _ _ s 0 0 A) = Q
  have hl := lv_entry ([.ref h0, .int 5]) (n := 4) (Nat.le_of_ble_eq_true rfl)
  rw [lg_entry_eq]
  generalize (lg_sl ([.ref h0, .int 5]) ++ List.replicate (4 - (lg_sl ([.ref h0, .int 5])).length) Slot.unset).toArray = ls at hl ⊢
  have hl : lv_has ls 4 [(0, .ref h0), (1, .int 5)] := hl
  obtain ⟨H, hH⟩ : ∃ H : Heap, H = s.heap := ⟨_, rfl⟩
  obtain ⟨locs, hlocs⟩ : ∃ y : List Loc, y = [] := ⟨_, rfl⟩
  have hS : va_S A s.heap H locs := by rw [hH, hlocs]; exact va_S.rf
  have hP : va_P (dC, dI) vwCl (wd_1ad0248d h0 h1 h3 v0 h1 h2 v1 v2 v3 v4 h2 g0 f5 h3 g1 f6) H := by rw [hH]; exact hP
  rw [← hH, ← hlocs]
  refine lv_aload_n hx hb dX3_readTerm_0 rfl (lv_at hl 0 rfl) ?_
  refine lv_iload_n hx hb dX3_readTerm_1 rfl (lv_at hl 1 rfl) ?_
  have hPc := hP.sub (ws' := (wd_1ad0248d h0 h1 h3 v0 h1 h2 v1 v2 v3 v4 h2 g0 f5 h3 g1 f6)) [0, 1, 2, 3] rfl
  have hDc := hD.sub (ws' := (wd_1ad0248d h0 h1 h3 v0 h1 h2 v1 v2 v3 v4 h2 g0 f5 h3 g1 f6)) [0, 1, 2, 3] (by decide) rfl
  have hKc := hK.sub (tys' := [(g0, .int), (g1, .int)]) [0, 1] rfl
  have hFc := va_free (wc := (wd_1ad0248d h0 h1 h3 v0 h1 h2 v1 v2 v3 v4 h2 g0 f5 h3 g1 f6)) hD hS hA [0, 1, 2, 3] rfl
  refine va_calli (va_runV (As := [.int 5]) (rest := []) ⟨hx, hb, hml, hown, hts⟩ (k_X3_readAtom_1 l dC dI adK adV h0 h1 h2 h3 v0 v1 v2 v3 v4 g0 f5 g1 f6 ⟨i_v0a, i_v0b⟩ ⟨i_v1a, i_v1b⟩ ⟨i_v2a, i_v2b⟩ ia_f5 H.size) (cwV 1 hts g_X3_readTerm_1_0 rfl rfl rfl (by decide +kernel) ⟨Nat.le_of_ble_eq_true rfl, Nat.le_of_ble_eq_true rfl⟩) ⟨fun a U g mk q => by obtain ⟨q0, q1, qP, qK, qD, n0, n1, n2⟩ := q; exact ⟨q0, q1, qP, va_K.moved (u := U) (U := U.calling g mk a) (Vm.Alike.refl U.vm) qK, qD, vk_R.same rfl n0, va_Z.moved (Vm.Alike.refl _) n1, vk_S.moved (Vm.Alike.refl _) n2⟩, pv_rc3 hKc hPc (q0 := 0) rfl, fun U hU hW => ⟨rfl, by rw [hU], by rw [hU]; exact hPc, va_K.moved hW.alike hKc, hDc.weaken (fun _ _ _ _ => trivial), vk_R.warm hW h_vr_2, (by rw [hU]; exact (va_Z.moved hW.alike (va_Z.kept h_st_CS hS.2.1)).narrow hFc), (by rw [hU]; exact (vk_S.moved hW.alike (vk_S.kept h_st_S hS.2.1)).narrow hFc)⟩⟩ rfl rfl hl.1 rfl (lv_room (Nat.le_of_ble_eq_true rfl)) dX3_readTerm_2 ⟨Nat.le_of_ble_eq_true rfl, Nat.le_of_ble_eq_true rfl⟩) hS (fun q _ h => hFc q h) hFc (fun ra1 u t H1 locs ht hvm hwra1 hB hz1 hk1 hS => ?_)
  try rw [hwra1] at hB
  rcases hB with hB | hB
  · skip
    obtain ⟨x2, x3, x4, fn5, oa_x2, ob_x2, oa_x3, ob_x3, pt0_ra1, pt1_ra1, pt2_ra1, pt3_ra1, hP1, hK1, hD1⟩ := hB
    rw [ht] at hP1
    obtain ⟨hP2, hD2⟩ := va_join (wr := []) (w1 := (wd_1ad0248d h0 h1 h3 x2 h1 h2 v1 x3 v3 x4 h2 g0 f5 h3 g1 fn5)) hP hD [0, 1, 2, 3] [] rfl rfl (by decide) (by decide) hk1 hFc hP1 hD1
    clear hP hD hPc hDc hKc hFc hP1 hK1 hD1 hk1 hz1
    generalize H1 = H at hP2 hS ⊢
    have hP : va_P (dC, dI) vwCl (wd_1ad0248d h0 h1 h3 x2 h1 h2 v1 x3 v3 x4 h2 g0 f5 h3 g1 fn5) H := hP2
    have hD : va_D A (wd_1ad0248d h0 h1 h3 x2 h1 h2 v1 x3 v3 x4 h2 g0 f5 h3 g1 fn5) := hD2
    clear hP2 hD2
    obtain rfl : ra1 = (1 : Int32) := pv_cs (by decide) pt0_ra1 pt1_ra1
    refine lv_if_ne (tgt := 10) hx hb dX3_readTerm_5 (by decide) (fun _ => ?_) (fun c => absurd c (by decide))
    refine lv_iconst (v := 0) hx hb dX3_readTerm_10 (by decide) ?_
    refine lv_istore_n (lv' := [(2, .int 0), (0, .ref h0), (1, .int 5)]) hx hb dX3_readTerm_11 rfl hl (by decide) rfl (fun ls hl => ?_)
    have hL101 : ∀ (n9 : Nat), ∀ (x91 : Int32) (x92 : Int32) (x93 : Int32) (x94 : Int32) (fn95 : Nat → Int32) (H : Heap) (locs : List Loc) (ls : Array Slot), 0 ≤ x91.toInt → x91.toInt ≤ 240 → 0 ≤ x92.toInt → x92.toInt ≤ 256 → 0 ≤ x93.toInt → x93.toInt ≤ 240 → (pg_L f5 v1.toInt 42 47 (pg_atom f5 v1.toInt 1) x93.toInt (pg_term f5 v1.toInt 1 v2.toInt)) → (x91.toInt ≤ x93.toInt) → (v2.toInt ≤ x93.toInt) → (240 - x91.toInt).toNat < n9 → va_P (dC, dI) vwCl (wd_1ad0248d h0 h1 h3 x92 h1 h2 v1 x93 v3 x94 h2 g0 f5 h3 g1 fn95) H → va_D A (wd_1ad0248d h0 h1 h3 x92 h1 h2 v1 x93 v3 x94 h2 g0 f5 h3 g1 fn95) → va_S A s.heap H locs → lv_has ls 4 [(2, .int x91), (0, .ref h0), (1, .int 5)] → W p l e ({ frames := 8, cells := 0, slots := 0, locals := 183 }) s m ([.ref h0, .int 5] : List Value).toArray below meth c H locs 0 0 Q (F0 m 12 ls []) := by
      intro n9
      induction n9 with
      | zero => intro x91 x92 x93 x94 fn95 H locs ls qa_x91 qb_x91 qa_x92 qb_x92 qa_x93 qb_x93 gh0_hL101 gh1_hL101 gh2_hL101 hm9 hP hD hS hl; exact absurd hm9 (Nat.not_lt_zero _)
      | succ n9 ih_hL101 =>
        intro x91 x92 x93 x94 fn95 H locs ls qa_x91 qb_x91 qa_x92 qb_x92 qa_x93 qb_x93 gh0_hL101 gh1_hL101 gh2_hL101 hm9 hP hD hS hl
        refine lv_iload_n hx hb dX3_readTerm_12 rfl (lv_at hl 0 rfl) ?_
        refine lv_sipush (v := 240) hx hb dX3_readTerm_13 (by decide) ?_
        refine lv_icmp_ge (tgt := 80) hx hb dX3_readTerm_16 (by decide) (fun c102 => ?_) (fun c102 => ?_)
        · skip
          have fc102 : 240 ≤ x91.toInt := Int32.le_iff_toInt_le.mp c102
          refine lv_iconst (v := 1) hx hb dX3_readTerm_80 (by decide) ?_
          subst hQ
          have hP9 := hP.sub (ws' := (wd_1ad0248d h0 h1 h3 x92 h1 h2 v1 x93 v3 x94 h2 g0 f5 h3 g1 fn95)) [0, 1, 2, 3] rfl
          have hD9 := hD.sub (ws' := (wd_1ad0248d h0 h1 h3 x92 h1 h2 v1 x93 v3 x94 h2 g0 f5 h3 g1 fn95)) [0, 1, 2, 3] (by decide) rfl
          have hK9 := hK.sub (tys' := []) [] rfl
          exact W.zret (v := 1) hx hb hr rfl (fun t ht hW => ⟨⟨1, 1, rfl, rfl, Or.inl ⟨x92, x93, x94, fn95, qa_x92, qb_x92, qa_x93, qb_x93, by first | omega | decide, by first | omega | decide, by omega, by first | assumption | (apply pg_L.stop <;> first | assumption | omega) | exact pg_L.stop (by assumption) (pg_s.here (by rw [pg_ch.off (by omega)]; decide)) (by rw [pg_ch.off (by omega)]; decide), by rw [ht]; exact hP9, va_K.moved hW.alike hK9, hD9⟩⟩, hS.F ht⟩) hS.2.2 dX3_readTerm_81
        · skip
          have fc102 : ¬ (240 ≤ x91.toInt) := fun h9 => c102 (Int32.le_iff_toInt_le.mpr h9)
          refine lv_aload_n hx hb dX3_readTerm_19 rfl (lv_at hl 1 rfl) ?_
          refine va_get (D := (dC, dI)) (ci := 3) (v := .ref h1) (C := RX3) (T := TX3) (N := 3) hx hb hts (fun _ h => List.mem_cons_of_mem _ (List.mem_append_left _ (List.mem_append_right _ h))) hown hK hP 0 rfl rfl 0 (by decide) (hts (.fieldLink RX3 19 "LeftArguments$LawReader" "tape" "LLeftArguments$Tape;") (List.mem_cons_of_mem _ (List.mem_append_left _ (List.mem_append_left _ (List.mem_of_getElem? (i := 1) rfl))))) (fun _ h9 => h9) rfl dX3_readTerm_20 ?_
          have hPc := hP.sub (ws' := (wd_82cdd16b h1 h2 v1 x93 v3 x94 h2 g0 f5)) [1, 2] rfl
          have hDc := hD.sub (ws' := (wd_82cdd16b h1 h2 v1 x93 v3 x94 h2 g0 f5)) [1, 2] (by decide) rfl
          have hKc := hK.sub (tys' := [(g0, .int)]) [0] rfl
          have hFc := va_free (wc := (wd_82cdd16b h1 h2 v1 x93 v3 x94 h2 g0 f5)) hD hS hA [1, 2] rfl
          refine va_calli (va_runV (As := []) (rest := []) ⟨hx, hb, hml, hown, hts⟩ (k_X10_next l dC dI h1 h2 v1 x93 v3 x94 g0 f5 ⟨i_v1a, i_v1b⟩ ⟨qa_x93, qb_x93⟩ ia_f5 H.size) (cwV 0 hts g_X3_readTerm_1_1 rfl rfl rfl (by decide +kernel) ⟨Nat.le_of_ble_eq_true rfl, Nat.le_of_ble_eq_true rfl⟩) (pv_PV10 hPc hKc hDc (q0 := 0) rfl) rfl rfl hl.1 rfl (lv_room (Nat.le_of_ble_eq_true rfl)) dX3_readTerm_23 ⟨Nat.le_of_ble_eq_true rfl, Nat.le_of_ble_eq_true rfl⟩) hS (fun q _ h => hFc q h) hFc (fun ra103 u t H1 locs ht hvm hwra103 hB hz1 hk1 hS => ?_)
          try rw [hwra103] at hB
          rcases hB with hB | hB
          · skip
            obtain ⟨x104, oa_x104, ob_x104, pt0_ra103, pt1_ra103, pt2_ra103, pt3_ra103, pt4_ra103, pt5_ra103, pt6_ra103, hP1, hK1, hD1⟩ := hB
            rw [ht] at hP1
            obtain ⟨hP2, hD2⟩ := va_join (wr := (wd_b958b9da h0 h1 h3 x92 h3 g1 fn95)) (w1 := (wd_82cdd16b h1 h2 v1 x104 v3 x94 h2 g0 f5)) hP hD [1, 2] [0, 3] rfl rfl (by decide) (by decide) hk1 hFc hP1 hD1
            clear hP hD hPc hDc hKc hFc hP1 hK1 hD1 hk1 hz1
            generalize H1 = H at hP2 hS ⊢
            have hP := hP2.sub (ws' := (wd_1ad0248d h0 h1 h3 x92 h1 h2 v1 x104 v3 x94 h2 g0 f5 h3 g1 fn95)) [0, 2, 3, 1] rfl
            have hD := hD2.sub (ws' := (wd_1ad0248d h0 h1 h3 x92 h1 h2 v1 x104 v3 x94 h2 g0 f5 h3 g1 fn95)) [0, 2, 3, 1] (by decide) rfl
            clear hP2 hD2
            obtain rfl : ra103 = ((-1) : Int32) := pv_cs (by decide) pt0_ra103 pt1_ra103
            refine lv_istore_n (lv' := [(3, .int (-1)), (2, .int x91), (0, .ref h0), (1, .int 5)]) hx hb dX3_readTerm_26 rfl hl (by decide) rfl (fun ls hl => ?_)
            refine lv_iload_n hx hb dX3_readTerm_27 rfl (lv_at hl 0 rfl) ?_
            refine lv_bipush (v := 42) hx hb dX3_readTerm_28 (by decide) ?_
            refine lv_icmp_eq (tgt := 41) hx hb dX3_readTerm_30 (by decide) (fun c => absurd c (by decide)) (fun _ => ?_)
            refine lv_iload_n hx hb dX3_readTerm_33 rfl (lv_at hl 0 rfl) ?_
            refine lv_bipush (v := 47) hx hb dX3_readTerm_34 (by decide) ?_
            refine lv_icmp_eq (tgt := 41) hx hb dX3_readTerm_36 (by decide) (fun c => absurd c (by decide)) (fun _ => ?_)
            refine lv_iconst (v := 1) hx hb dX3_readTerm_39 (by decide) ?_
            subst hQ
            have hP9 := hP.sub (ws' := (wd_1ad0248d h0 h1 h3 x92 h1 h2 v1 x104 v3 x94 h2 g0 f5 h3 g1 fn95)) [0, 1, 2, 3] rfl
            have hD9 := hD.sub (ws' := (wd_1ad0248d h0 h1 h3 x92 h1 h2 v1 x104 v3 x94 h2 g0 f5 h3 g1 fn95)) [0, 1, 2, 3] (by decide) rfl
            have hK9 := hK.sub (tys' := []) [] rfl
            exact W.zret (v := 1) hx hb hr rfl (fun t ht hW => ⟨⟨1, 1, rfl, rfl, Or.inl ⟨x92, x104, x94, fn95, qa_x92, qb_x92, oa_x104, ob_x104, by first | omega | decide, by first | omega | decide, by omega, by first | assumption | (apply pg_L.stop <;> first | assumption | omega) | exact pg_L.stop (by assumption) (pg_s.here (by rw [pg_ch.off (by omega)]; decide)) (by rw [pg_ch.off (by omega)]; decide), by rw [ht]; exact hP9, va_K.moved hW.alike hK9, hD9⟩⟩, hS.F ht⟩) hS.2.2 dX3_readTerm_40
          · skip
            obtain ⟨x105, oa_x105, ob_x105, pt0_ra103, pt1_ra103, pt2_ra103, pt3_ra103, pt4_ra103, pt5_ra103, pt6_ra103, hP1, hK1, hD1⟩ := hB
            rw [ht] at hP1
            obtain ⟨hP2, hD2⟩ := va_join (wr := (wd_b958b9da h0 h1 h3 x92 h3 g1 fn95)) (w1 := (wd_82cdd16b h1 h2 v1 x105 v3 x94 h2 g0 f5)) hP hD [1, 2] [0, 3] rfl rfl (by decide) (by decide) hk1 hFc hP1 hD1
            clear hP hD hPc hDc hKc hFc hP1 hK1 hD1 hk1 hz1
            generalize H1 = H at hP2 hS ⊢
            have hP := hP2.sub (ws' := (wd_1ad0248d h0 h1 h3 x92 h1 h2 v1 x105 v3 x94 h2 g0 f5 h3 g1 fn95)) [0, 2, 3, 1] rfl
            have hD := hD2.sub (ws' := (wd_1ad0248d h0 h1 h3 x92 h1 h2 v1 x105 v3 x94 h2 g0 f5 h3 g1 fn95)) [0, 2, 3, 1] (by decide) rfl
            clear hP2 hD2
            refine lv_istore_n (lv' := [(3, .int ra103), (2, .int x91), (0, .ref h0), (1, .int 5)]) hx hb dX3_readTerm_26 rfl hl (by decide) rfl (fun ls hl => ?_)
            refine lv_iload_n hx hb dX3_readTerm_27 rfl (lv_at hl 0 rfl) ?_
            refine lv_bipush (v := 42) hx hb dX3_readTerm_28 (by decide) ?_
            refine lv_icmp_eq (tgt := 41) hx hb dX3_readTerm_30 (by decide) (fun c106 => ?_) (fun c106 => ?_)
            · skip
              have fc106 : ra103.toInt = 42 := congrArg Int32.toInt c106
              refine lv_aload_n hx hb dX3_readTerm_41 rfl (lv_at hl 2 rfl) ?_
              refine va_get (D := (dC, dI)) (ci := 3) (v := .ref h1) (C := RX3) (T := TX3) (N := 3) hx hb hts (fun _ h => List.mem_cons_of_mem _ (List.mem_append_left _ (List.mem_append_right _ h))) hown hK hP 0 rfl rfl 0 (by decide) (hts (.fieldLink RX3 19 "LeftArguments$LawReader" "tape" "LLeftArguments$Tape;") (List.mem_cons_of_mem _ (List.mem_append_left _ (List.mem_append_left _ (List.mem_of_getElem? (i := 1) rfl))))) (fun _ h9 => h9) rfl dX3_readTerm_42 ?_
              have hPc := hP.sub (ws' := (wd_09b0abee h1 h2 v1 x105 v3 x94)) [1] rfl
              have hDc := hD.sub (ws' := (wd_09b0abee h1 h2 v1 x105 v3 x94)) [1] (by decide) rfl
              have hKc := hK.sub (tys' := []) [] rfl
              have hFc := va_free (wc := (wd_09b0abee h1 h2 v1 x105 v3 x94)) hD hS hA [1] rfl
              refine va_callv (va_runV (As := []) (rest := []) ⟨hx, hb, hml, hown, hts⟩ (k_X10_step l dC dI h1 h2 v1 x105 v3 x94 ⟨i_v1a, i_v1b⟩ ⟨oa_x105, ob_x105⟩ H.size) (cwV 0 hts g_X3_readTerm_1_2 rfl rfl rfl (by decide +kernel) ⟨Nat.le_of_ble_eq_true rfl, Nat.le_of_ble_eq_true rfl⟩) (pv_PV10 hPc hKc hDc (q0 := 0) rfl) rfl rfl hl.1 rfl (lv_room (Nat.le_of_ble_eq_true rfl)) dX3_readTerm_45 ⟨Nat.le_of_ble_eq_true rfl, Nat.le_of_ble_eq_true rfl⟩) hS (fun q _ h => hFc q h) hFc (fun u t H1 locs ht hvm hwra107 hB hz1 hk1 hS => ?_)
              obtain ⟨x108, oa_x108, ob_x108, pt0_ra107, hP1, hK1, hD1⟩ := hB
              rw [ht] at hP1
              obtain ⟨hP2, hD2⟩ := va_join (wr := (wd_6b0d8e05 h0 h1 h3 x92 h2 g0 f5 h3 g1 fn95)) (w1 := (wd_09b0abee h1 h2 v1 x108 v3 x94)) hP hD [1] [0, 2, 3] rfl rfl (by decide) (by decide) hk1 hFc hP1 hD1
              clear hP hD hPc hDc hKc hFc hP1 hK1 hD1 hk1 hz1
              generalize H1 = H at hP2 hS ⊢
              have hP := hP2.sub (ws' := (wd_1ad0248d h0 h1 h3 x92 h1 h2 v1 x108 v3 x94 h2 g0 f5 h3 g1 fn95)) [0, 3, 1, 2] rfl
              have hD := hD2.sub (ws' := (wd_1ad0248d h0 h1 h3 x92 h1 h2 v1 x108 v3 x94 h2 g0 f5 h3 g1 fn95)) [0, 3, 1, 2] (by decide) rfl
              clear hP2 hD2
              refine lv_aload_n hx hb dX3_readTerm_48 rfl (lv_at hl 2 rfl) ?_
              refine lv_iload_n hx hb dX3_readTerm_49 rfl (lv_at hl 3 rfl) ?_
              have hPc := hP.sub (ws' := (wd_1ad0248d h0 h1 h3 x92 h1 h2 v1 x108 v3 x94 h2 g0 f5 h3 g1 fn95)) [0, 1, 2, 3] rfl
              have hDc := hD.sub (ws' := (wd_1ad0248d h0 h1 h3 x92 h1 h2 v1 x108 v3 x94 h2 g0 f5 h3 g1 fn95)) [0, 1, 2, 3] (by decide) rfl
              have hKc := hK.sub (tys' := [(g0, .int), (g1, .int)]) [0, 1] rfl
              have hFc := va_free (wc := (wd_1ad0248d h0 h1 h3 x92 h1 h2 v1 x108 v3 x94 h2 g0 f5 h3 g1 fn95)) hD hS hA [0, 1, 2, 3] rfl
              refine va_calli (va_runV (As := [.int 5]) (rest := []) ⟨hx, hb, hml, hown, hts⟩ (k_X3_readAtom_1 l dC dI adK adV h0 h1 h2 h3 x92 v1 x108 v3 x94 g0 f5 g1 fn95 ⟨qa_x92, qb_x92⟩ ⟨i_v1a, i_v1b⟩ ⟨by first | omega | decide, ob_x108⟩ ia_f5 H.size) (cwV 1 hts g_X3_readTerm_1_0 rfl rfl rfl (by decide +kernel) ⟨Nat.le_of_ble_eq_true rfl, Nat.le_of_ble_eq_true rfl⟩) ⟨fun a U g mk q => by obtain ⟨q0, q1, qP, qK, qD, n0, n1, n2⟩ := q; exact ⟨q0, q1, qP, va_K.moved (u := U) (U := U.calling g mk a) (Vm.Alike.refl U.vm) qK, qD, vk_R.same rfl n0, va_Z.moved (Vm.Alike.refl _) n1, vk_S.moved (Vm.Alike.refl _) n2⟩, pv_rc3 hKc hPc (q0 := 0) rfl, fun U hU hW => ⟨rfl, by rw [hU], by rw [hU]; exact hPc, va_K.moved hW.alike hKc, hDc.weaken (fun _ _ _ _ => trivial), vk_R.warm hW h_vr_2, (by rw [hU]; exact (va_Z.moved hW.alike (va_Z.kept h_st_CS hS.2.1)).narrow hFc), (by rw [hU]; exact (vk_S.moved hW.alike (vk_S.kept h_st_S hS.2.1)).narrow hFc)⟩⟩ rfl rfl hl.1 rfl (lv_room (Nat.le_of_ble_eq_true rfl)) dX3_readTerm_50 ⟨Nat.le_of_ble_eq_true rfl, Nat.le_of_ble_eq_true rfl⟩) hS (fun q _ h => hFc q h) hFc (fun ra109 u t H1 locs ht hvm hwra109 hB hz1 hk1 hS => ?_)
              try rw [hwra109] at hB
              rcases hB with hB | hB
              · skip
                obtain ⟨x110, x111, x112, fn113, oa_x110, ob_x110, oa_x111, ob_x111, pt0_ra109, pt1_ra109, pt2_ra109, pt3_ra109, hP1, hK1, hD1⟩ := hB
                rw [ht] at hP1
                obtain ⟨hP2, hD2⟩ := va_join (wr := []) (w1 := (wd_1ad0248d h0 h1 h3 x110 h1 h2 v1 x111 v3 x112 h2 g0 f5 h3 g1 fn113)) hP hD [0, 1, 2, 3] [] rfl rfl (by decide) (by decide) hk1 hFc hP1 hD1
                clear hP hD hPc hDc hKc hFc hP1 hK1 hD1 hk1 hz1
                generalize H1 = H at hP2 hS ⊢
                have hP : va_P (dC, dI) vwCl (wd_1ad0248d h0 h1 h3 x110 h1 h2 v1 x111 v3 x112 h2 g0 f5 h3 g1 fn113) H := hP2
                have hD : va_D A (wd_1ad0248d h0 h1 h3 x110 h1 h2 v1 x111 v3 x112 h2 g0 f5 h3 g1 fn113) := hD2
                clear hP2 hD2
                obtain rfl : ra109 = (1 : Int32) := pv_cs (by decide) pt0_ra109 pt1_ra109
                refine lv_if_ne (tgt := 58) hx hb dX3_readTerm_53 (by decide) (fun _ => ?_) (fun c => absurd c (by decide))
                refine lv_aload_n hx hb dX3_readTerm_58 rfl (lv_at hl 2 rfl) ?_
                refine lv_iload_n hx hb dX3_readTerm_59 rfl (lv_at hl 0 rfl) ?_
                refine lv_bipush (v := 42) hx hb dX3_readTerm_60 (by decide) ?_
                refine lv_icmp_ne (tgt := 69) hx hb dX3_readTerm_62 (by decide) (fun c114 => by exfalso; have fc114 : ¬ (ra103.toInt = 42) := fun h9 => c114 (Int32.toInt_inj.mp h9); omega) (fun _ => ?_)
                refine lv_iconst (v := 4) hx hb dX3_readTerm_65 (by decide) ?_
                refine lv_goto (tgt := 70) hx hb dX3_readTerm_66 (by decide) ?_
                refine lv_iconst (v := 0) hx hb dX3_readTerm_70 (by decide) ?_
                have hPc := hP.sub (ws' := (wd_b958b9da h0 h1 h3 x110 h3 g1 fn113)) [0, 3] rfl
                have hDc := hD.sub (ws' := (wd_b958b9da h0 h1 h3 x110 h3 g1 fn113)) [0, 3] (by decide) rfl
                have hKc := hK.sub (tys' := [(g1, .int)]) [1] rfl
                have hFc := va_free (wc := (wd_b958b9da h0 h1 h3 x110 h3 g1 fn113)) hD hS hA [0, 3] rfl
                refine va_callv (va_runV (As := [.int 4, .int 0]) (rest := []) ⟨hx, hb, hml, hown, hts⟩ (k_X3_write l dC dI h0 h3 h1 x110 g1 fn113 4 0 ⟨oa_x110, ob_x110⟩ H.size) (cwV 2 hts g_X3_readTerm_1_4 rfl rfl rfl (by decide +kernel) ⟨Nat.le_of_ble_eq_true rfl, Nat.le_of_ble_eq_true rfl⟩) (pv_PV3 hPc hKc hDc (q0 := 0) rfl) rfl rfl hl.1 rfl (lv_room (Nat.le_of_ble_eq_true rfl)) dX3_readTerm_71 ⟨Nat.le_of_ble_eq_true rfl, Nat.le_of_ble_eq_true rfl⟩) hS (fun q _ h => hFc q h) hFc (fun u t H1 locs ht hvm hwra115 hB hz1 hk1 hS => ?_)
                obtain ⟨x116, fn117, oa_x116, ob_x116, hP1, hK1, hD1⟩ := hB
                rw [ht] at hP1
                obtain ⟨hP2, hD2⟩ := va_join (wr := (wd_82cdd16b h1 h2 v1 x111 v3 x112 h2 g0 f5)) (w1 := (wd_b958b9da h0 h1 h3 x116 h3 g1 fn117)) hP hD [0, 3] [1, 2] rfl rfl (by decide) (by decide) hk1 hFc hP1 hD1
                clear hP hD hPc hDc hKc hFc hP1 hK1 hD1 hk1 hz1
                generalize H1 = H at hP2 hS ⊢
                have hP := hP2.sub (ws' := (wd_1ad0248d h0 h1 h3 x116 h1 h2 v1 x111 v3 x112 h2 g0 f5 h3 g1 fn117)) [2, 0, 1, 3] rfl
                have hD := hD2.sub (ws' := (wd_1ad0248d h0 h1 h3 x116 h1 h2 v1 x111 v3 x112 h2 g0 f5 h3 g1 fn117)) [2, 0, 1, 3] (by decide) rfl
                clear hP2 hD2
                obtain ⟨t118, et118⟩ : ∃ y : Int32, y = x91 + 1 := ⟨_, rfl⟩
                have gt118 : t118.toInt = x91.toInt + (1) := pv_add (a := x91.toInt) (b := (1)) et118 rfl (by decide) (by omega) (by omega)
                refine lv_iinc (v := t118) (lv' := [(2, .int t118), (3, .int ra103), (0, .ref h0), (1, .int 5)]) hx hb dX3_readTerm_74 hl (k := 1) rfl (by rw [et118]; rfl) (by decide) rfl (fun ls hl => ?_)
                refine lv_goto (tgt := 12) hx hb dX3_readTerm_77 (by decide) ?_
                exact ih_hL101 t118 x116 x111 x112 fn117 H locs ls (by first | omega | decide) (by first | omega | decide) oa_x116 ob_x116 oa_x111 ob_x111 (by first | assumption | (apply pg_row.go <;> first | assumption | omega) | (apply pg_L.bi <;> first | assumption | omega) | (apply pg_L.step <;> first | assumption | omega)) (by first | omega | ((have h09 : ((0 : Int32)).toInt = 0 := by decide); omega)) (by omega) (by first | omega | (simp only [Int.toNat] at *; omega)) hP hD hS (lv_sub hl [0, 2, 3] rfl)
              · skip
                obtain ⟨x119, x120, x121, x122, fn123, oa_x119, ob_x119, oa_x120, ob_x120, oa_x121, ob_x121, pt0_ra109, pt1_ra109, pt2_ra109, pt3_ra109, hP1, hK1, hD1⟩ := hB
                rw [ht] at hP1
                obtain ⟨hP2, hD2⟩ := va_join (wr := []) (w1 := (wd_1ad0248d h0 h1 h3 x119 h1 h2 v1 x120 x121 x122 h2 g0 f5 h3 g1 fn123)) hP hD [0, 1, 2, 3] [] rfl rfl (by decide) (by decide) hk1 hFc hP1 hD1
                clear hP hD hPc hDc hKc hFc hP1 hK1 hD1 hk1 hz1
                generalize H1 = H at hP2 hS ⊢
                have hP : va_P (dC, dI) vwCl (wd_1ad0248d h0 h1 h3 x119 h1 h2 v1 x120 x121 x122 h2 g0 f5 h3 g1 fn123) H := hP2
                have hD : va_D A (wd_1ad0248d h0 h1 h3 x119 h1 h2 v1 x120 x121 x122 h2 g0 f5 h3 g1 fn123) := hD2
                clear hP2 hD2
                obtain rfl : ra109 = (0 : Int32) := pv_cs (by decide) pt0_ra109 pt1_ra109
                refine lv_if_ne (tgt := 58) hx hb dX3_readTerm_53 (by decide) (fun c => absurd (by decide) c) (fun _ => ?_)
                refine lv_iconst (v := 0) hx hb dX3_readTerm_56 (by decide) ?_
                subst hQ
                have hP9 := hP.sub (ws' := (wd_1ad0248d h0 h1 h3 x119 h1 h2 v1 x120 x121 x122 h2 g0 f5 h3 g1 fn123)) [0, 1, 2, 3] rfl
                have hD9 := hD.sub (ws' := (wd_1ad0248d h0 h1 h3 x119 h1 h2 v1 x120 x121 x122 h2 g0 f5 h3 g1 fn123)) [0, 1, 2, 3] (by decide) rfl
                have hK9 := hK.sub (tys' := []) [] rfl
                exact W.zret (v := 0) hx hb hr rfl (fun t ht hW => ⟨⟨0, 0, rfl, rfl, Or.inr (⟨x119, x120, x121, x122, fn123, oa_x119, ob_x119, oa_x120, ob_x120, oa_x121, ob_x121, by first | omega | decide, by first | omega | decide, by omega, by first | assumption | (apply pg_row.no <;> first | assumption | omega) | (apply pg_L.no <;> first | assumption | omega), by rw [ht]; exact hP9, va_K.moved hW.alike hK9, hD9⟩)⟩, hS.F ht⟩) hS.2.2 dX3_readTerm_57
            · skip
              have fc106 : ¬ (ra103.toInt = 42) := fun h9 => c106 (Int32.toInt_inj.mp h9)
              refine lv_iload_n hx hb dX3_readTerm_33 rfl (lv_at hl 0 rfl) ?_
              refine lv_bipush (v := 47) hx hb dX3_readTerm_34 (by decide) ?_
              refine lv_icmp_eq (tgt := 41) hx hb dX3_readTerm_36 (by decide) (fun c124 => ?_) (fun c124 => ?_)
              · skip
                have fc124 : ra103.toInt = 47 := congrArg Int32.toInt c124
                refine lv_aload_n hx hb dX3_readTerm_41 rfl (lv_at hl 2 rfl) ?_
                refine va_get (D := (dC, dI)) (ci := 3) (v := .ref h1) (C := RX3) (T := TX3) (N := 3) hx hb hts (fun _ h => List.mem_cons_of_mem _ (List.mem_append_left _ (List.mem_append_right _ h))) hown hK hP 0 rfl rfl 0 (by decide) (hts (.fieldLink RX3 19 "LeftArguments$LawReader" "tape" "LLeftArguments$Tape;") (List.mem_cons_of_mem _ (List.mem_append_left _ (List.mem_append_left _ (List.mem_of_getElem? (i := 1) rfl))))) (fun _ h9 => h9) rfl dX3_readTerm_42 ?_
                have hPc := hP.sub (ws' := (wd_09b0abee h1 h2 v1 x105 v3 x94)) [1] rfl
                have hDc := hD.sub (ws' := (wd_09b0abee h1 h2 v1 x105 v3 x94)) [1] (by decide) rfl
                have hKc := hK.sub (tys' := []) [] rfl
                have hFc := va_free (wc := (wd_09b0abee h1 h2 v1 x105 v3 x94)) hD hS hA [1] rfl
                refine va_callv (va_runV (As := []) (rest := []) ⟨hx, hb, hml, hown, hts⟩ (k_X10_step l dC dI h1 h2 v1 x105 v3 x94 ⟨i_v1a, i_v1b⟩ ⟨oa_x105, ob_x105⟩ H.size) (cwV 0 hts g_X3_readTerm_1_2 rfl rfl rfl (by decide +kernel) ⟨Nat.le_of_ble_eq_true rfl, Nat.le_of_ble_eq_true rfl⟩) (pv_PV10 hPc hKc hDc (q0 := 0) rfl) rfl rfl hl.1 rfl (lv_room (Nat.le_of_ble_eq_true rfl)) dX3_readTerm_45 ⟨Nat.le_of_ble_eq_true rfl, Nat.le_of_ble_eq_true rfl⟩) hS (fun q _ h => hFc q h) hFc (fun u t H1 locs ht hvm hwra125 hB hz1 hk1 hS => ?_)
                obtain ⟨x126, oa_x126, ob_x126, pt0_ra125, hP1, hK1, hD1⟩ := hB
                rw [ht] at hP1
                obtain ⟨hP2, hD2⟩ := va_join (wr := (wd_6b0d8e05 h0 h1 h3 x92 h2 g0 f5 h3 g1 fn95)) (w1 := (wd_09b0abee h1 h2 v1 x126 v3 x94)) hP hD [1] [0, 2, 3] rfl rfl (by decide) (by decide) hk1 hFc hP1 hD1
                clear hP hD hPc hDc hKc hFc hP1 hK1 hD1 hk1 hz1
                generalize H1 = H at hP2 hS ⊢
                have hP := hP2.sub (ws' := (wd_1ad0248d h0 h1 h3 x92 h1 h2 v1 x126 v3 x94 h2 g0 f5 h3 g1 fn95)) [0, 3, 1, 2] rfl
                have hD := hD2.sub (ws' := (wd_1ad0248d h0 h1 h3 x92 h1 h2 v1 x126 v3 x94 h2 g0 f5 h3 g1 fn95)) [0, 3, 1, 2] (by decide) rfl
                clear hP2 hD2
                refine lv_aload_n hx hb dX3_readTerm_48 rfl (lv_at hl 2 rfl) ?_
                refine lv_iload_n hx hb dX3_readTerm_49 rfl (lv_at hl 3 rfl) ?_
                have hPc := hP.sub (ws' := (wd_1ad0248d h0 h1 h3 x92 h1 h2 v1 x126 v3 x94 h2 g0 f5 h3 g1 fn95)) [0, 1, 2, 3] rfl
                have hDc := hD.sub (ws' := (wd_1ad0248d h0 h1 h3 x92 h1 h2 v1 x126 v3 x94 h2 g0 f5 h3 g1 fn95)) [0, 1, 2, 3] (by decide) rfl
                have hKc := hK.sub (tys' := [(g0, .int), (g1, .int)]) [0, 1] rfl
                have hFc := va_free (wc := (wd_1ad0248d h0 h1 h3 x92 h1 h2 v1 x126 v3 x94 h2 g0 f5 h3 g1 fn95)) hD hS hA [0, 1, 2, 3] rfl
                refine va_calli (va_runV (As := [.int 5]) (rest := []) ⟨hx, hb, hml, hown, hts⟩ (k_X3_readAtom_1 l dC dI adK adV h0 h1 h2 h3 x92 v1 x126 v3 x94 g0 f5 g1 fn95 ⟨qa_x92, qb_x92⟩ ⟨i_v1a, i_v1b⟩ ⟨by first | omega | decide, ob_x126⟩ ia_f5 H.size) (cwV 1 hts g_X3_readTerm_1_0 rfl rfl rfl (by decide +kernel) ⟨Nat.le_of_ble_eq_true rfl, Nat.le_of_ble_eq_true rfl⟩) ⟨fun a U g mk q => by obtain ⟨q0, q1, qP, qK, qD, n0, n1, n2⟩ := q; exact ⟨q0, q1, qP, va_K.moved (u := U) (U := U.calling g mk a) (Vm.Alike.refl U.vm) qK, qD, vk_R.same rfl n0, va_Z.moved (Vm.Alike.refl _) n1, vk_S.moved (Vm.Alike.refl _) n2⟩, pv_rc3 hKc hPc (q0 := 0) rfl, fun U hU hW => ⟨rfl, by rw [hU], by rw [hU]; exact hPc, va_K.moved hW.alike hKc, hDc.weaken (fun _ _ _ _ => trivial), vk_R.warm hW h_vr_2, (by rw [hU]; exact (va_Z.moved hW.alike (va_Z.kept h_st_CS hS.2.1)).narrow hFc), (by rw [hU]; exact (vk_S.moved hW.alike (vk_S.kept h_st_S hS.2.1)).narrow hFc)⟩⟩ rfl rfl hl.1 rfl (lv_room (Nat.le_of_ble_eq_true rfl)) dX3_readTerm_50 ⟨Nat.le_of_ble_eq_true rfl, Nat.le_of_ble_eq_true rfl⟩) hS (fun q _ h => hFc q h) hFc (fun ra127 u t H1 locs ht hvm hwra127 hB hz1 hk1 hS => ?_)
                try rw [hwra127] at hB
                rcases hB with hB | hB
                · skip
                  obtain ⟨x128, x129, x130, fn131, oa_x128, ob_x128, oa_x129, ob_x129, pt0_ra127, pt1_ra127, pt2_ra127, pt3_ra127, hP1, hK1, hD1⟩ := hB
                  rw [ht] at hP1
                  obtain ⟨hP2, hD2⟩ := va_join (wr := []) (w1 := (wd_1ad0248d h0 h1 h3 x128 h1 h2 v1 x129 v3 x130 h2 g0 f5 h3 g1 fn131)) hP hD [0, 1, 2, 3] [] rfl rfl (by decide) (by decide) hk1 hFc hP1 hD1
                  clear hP hD hPc hDc hKc hFc hP1 hK1 hD1 hk1 hz1
                  generalize H1 = H at hP2 hS ⊢
                  have hP : va_P (dC, dI) vwCl (wd_1ad0248d h0 h1 h3 x128 h1 h2 v1 x129 v3 x130 h2 g0 f5 h3 g1 fn131) H := hP2
                  have hD : va_D A (wd_1ad0248d h0 h1 h3 x128 h1 h2 v1 x129 v3 x130 h2 g0 f5 h3 g1 fn131) := hD2
                  clear hP2 hD2
                  obtain rfl : ra127 = (1 : Int32) := pv_cs (by decide) pt0_ra127 pt1_ra127
                  refine lv_if_ne (tgt := 58) hx hb dX3_readTerm_53 (by decide) (fun _ => ?_) (fun c => absurd c (by decide))
                  refine lv_aload_n hx hb dX3_readTerm_58 rfl (lv_at hl 2 rfl) ?_
                  refine lv_iload_n hx hb dX3_readTerm_59 rfl (lv_at hl 0 rfl) ?_
                  refine lv_bipush (v := 42) hx hb dX3_readTerm_60 (by decide) ?_
                  refine lv_icmp_ne (tgt := 69) hx hb dX3_readTerm_62 (by decide) (fun _ => ?_) (fun c132 => by exfalso; have fc132 : ra103.toInt = 42 := congrArg Int32.toInt c132; omega)
                  refine lv_iconst (v := 5) hx hb dX3_readTerm_69 (by decide) ?_
                  refine lv_iconst (v := 0) hx hb dX3_readTerm_70 (by decide) ?_
                  have hPc := hP.sub (ws' := (wd_b958b9da h0 h1 h3 x128 h3 g1 fn131)) [0, 3] rfl
                  have hDc := hD.sub (ws' := (wd_b958b9da h0 h1 h3 x128 h3 g1 fn131)) [0, 3] (by decide) rfl
                  have hKc := hK.sub (tys' := [(g1, .int)]) [1] rfl
                  have hFc := va_free (wc := (wd_b958b9da h0 h1 h3 x128 h3 g1 fn131)) hD hS hA [0, 3] rfl
                  refine va_callv (va_runV (As := [.int 5, .int 0]) (rest := []) ⟨hx, hb, hml, hown, hts⟩ (k_X3_write l dC dI h0 h3 h1 x128 g1 fn131 5 0 ⟨oa_x128, ob_x128⟩ H.size) (cwV 2 hts g_X3_readTerm_1_4 rfl rfl rfl (by decide +kernel) ⟨Nat.le_of_ble_eq_true rfl, Nat.le_of_ble_eq_true rfl⟩) (pv_PV3 hPc hKc hDc (q0 := 0) rfl) rfl rfl hl.1 rfl (lv_room (Nat.le_of_ble_eq_true rfl)) dX3_readTerm_71 ⟨Nat.le_of_ble_eq_true rfl, Nat.le_of_ble_eq_true rfl⟩) hS (fun q _ h => hFc q h) hFc (fun u t H1 locs ht hvm hwra133 hB hz1 hk1 hS => ?_)
                  obtain ⟨x134, fn135, oa_x134, ob_x134, hP1, hK1, hD1⟩ := hB
                  rw [ht] at hP1
                  obtain ⟨hP2, hD2⟩ := va_join (wr := (wd_82cdd16b h1 h2 v1 x129 v3 x130 h2 g0 f5)) (w1 := (wd_b958b9da h0 h1 h3 x134 h3 g1 fn135)) hP hD [0, 3] [1, 2] rfl rfl (by decide) (by decide) hk1 hFc hP1 hD1
                  clear hP hD hPc hDc hKc hFc hP1 hK1 hD1 hk1 hz1
                  generalize H1 = H at hP2 hS ⊢
                  have hP := hP2.sub (ws' := (wd_1ad0248d h0 h1 h3 x134 h1 h2 v1 x129 v3 x130 h2 g0 f5 h3 g1 fn135)) [2, 0, 1, 3] rfl
                  have hD := hD2.sub (ws' := (wd_1ad0248d h0 h1 h3 x134 h1 h2 v1 x129 v3 x130 h2 g0 f5 h3 g1 fn135)) [2, 0, 1, 3] (by decide) rfl
                  clear hP2 hD2
                  obtain ⟨t136, et136⟩ : ∃ y : Int32, y = x91 + 1 := ⟨_, rfl⟩
                  have gt136 : t136.toInt = x91.toInt + (1) := pv_add (a := x91.toInt) (b := (1)) et136 rfl (by decide) (by omega) (by omega)
                  refine lv_iinc (v := t136) (lv' := [(2, .int t136), (3, .int ra103), (0, .ref h0), (1, .int 5)]) hx hb dX3_readTerm_74 hl (k := 1) rfl (by rw [et136]; rfl) (by decide) rfl (fun ls hl => ?_)
                  refine lv_goto (tgt := 12) hx hb dX3_readTerm_77 (by decide) ?_
                  exact ih_hL101 t136 x134 x129 x130 fn135 H locs ls (by first | omega | decide) (by first | omega | decide) oa_x134 ob_x134 oa_x129 ob_x129 (by first | assumption | (apply pg_row.go <;> first | assumption | omega) | (apply pg_L.bi <;> first | assumption | omega) | (apply pg_L.step <;> first | assumption | omega)) (by first | omega | ((have h09 : ((0 : Int32)).toInt = 0 := by decide); omega)) (by omega) (by first | omega | (simp only [Int.toNat] at *; omega)) hP hD hS (lv_sub hl [0, 2, 3] rfl)
                · skip
                  obtain ⟨x137, x138, x139, x140, fn141, oa_x137, ob_x137, oa_x138, ob_x138, oa_x139, ob_x139, pt0_ra127, pt1_ra127, pt2_ra127, pt3_ra127, hP1, hK1, hD1⟩ := hB
                  rw [ht] at hP1
                  obtain ⟨hP2, hD2⟩ := va_join (wr := []) (w1 := (wd_1ad0248d h0 h1 h3 x137 h1 h2 v1 x138 x139 x140 h2 g0 f5 h3 g1 fn141)) hP hD [0, 1, 2, 3] [] rfl rfl (by decide) (by decide) hk1 hFc hP1 hD1
                  clear hP hD hPc hDc hKc hFc hP1 hK1 hD1 hk1 hz1
                  generalize H1 = H at hP2 hS ⊢
                  have hP : va_P (dC, dI) vwCl (wd_1ad0248d h0 h1 h3 x137 h1 h2 v1 x138 x139 x140 h2 g0 f5 h3 g1 fn141) H := hP2
                  have hD : va_D A (wd_1ad0248d h0 h1 h3 x137 h1 h2 v1 x138 x139 x140 h2 g0 f5 h3 g1 fn141) := hD2
                  clear hP2 hD2
                  obtain rfl : ra127 = (0 : Int32) := pv_cs (by decide) pt0_ra127 pt1_ra127
                  refine lv_if_ne (tgt := 58) hx hb dX3_readTerm_53 (by decide) (fun c => absurd (by decide) c) (fun _ => ?_)
                  refine lv_iconst (v := 0) hx hb dX3_readTerm_56 (by decide) ?_
                  subst hQ
                  have hP9 := hP.sub (ws' := (wd_1ad0248d h0 h1 h3 x137 h1 h2 v1 x138 x139 x140 h2 g0 f5 h3 g1 fn141)) [0, 1, 2, 3] rfl
                  have hD9 := hD.sub (ws' := (wd_1ad0248d h0 h1 h3 x137 h1 h2 v1 x138 x139 x140 h2 g0 f5 h3 g1 fn141)) [0, 1, 2, 3] (by decide) rfl
                  have hK9 := hK.sub (tys' := []) [] rfl
                  exact W.zret (v := 0) hx hb hr rfl (fun t ht hW => ⟨⟨0, 0, rfl, rfl, Or.inr (⟨x137, x138, x139, x140, fn141, oa_x137, ob_x137, oa_x138, ob_x138, oa_x139, ob_x139, by first | omega | decide, by first | omega | decide, by omega, by first | assumption | (apply pg_row.no <;> first | assumption | omega) | (apply pg_L.no <;> first | assumption | omega), by rw [ht]; exact hP9, va_K.moved hW.alike hK9, hD9⟩)⟩, hS.F ht⟩) hS.2.2 dX3_readTerm_57
              · skip
                have fc124 : ¬ (ra103.toInt = 47) := fun h9 => c124 (Int32.toInt_inj.mp h9)
                refine lv_iconst (v := 1) hx hb dX3_readTerm_39 (by decide) ?_
                subst hQ
                have hP9 := hP.sub (ws' := (wd_1ad0248d h0 h1 h3 x92 h1 h2 v1 x105 v3 x94 h2 g0 f5 h3 g1 fn95)) [0, 1, 2, 3] rfl
                have hD9 := hD.sub (ws' := (wd_1ad0248d h0 h1 h3 x92 h1 h2 v1 x105 v3 x94 h2 g0 f5 h3 g1 fn95)) [0, 1, 2, 3] (by decide) rfl
                have hK9 := hK.sub (tys' := []) [] rfl
                exact W.zret (v := 1) hx hb hr rfl (fun t ht hW => ⟨⟨1, 1, rfl, rfl, Or.inl ⟨x92, x105, x94, fn95, qa_x92, qb_x92, oa_x105, by first | omega | decide, by first | omega | decide, by first | omega | decide, by omega, by first | assumption | (apply pg_L.stop <;> first | assumption | omega) | exact pg_L.stop (by assumption) (pg_s.here (by rw [pg_ch.off (by omega)]; decide)) (by rw [pg_ch.off (by omega)]; decide), by rw [ht]; exact hP9, va_K.moved hW.alike hK9, hD9⟩⟩, hS.F ht⟩) hS.2.2 dX3_readTerm_40
    exact hL101 _ 0 x2 x3 x4 fn5 H locs ls (by decide) (by decide) oa_x2 ob_x2 oa_x3 ob_x3 (by first | assumption | (apply pg_row.go <;> first | assumption | omega) | (apply pg_L.bi <;> first | assumption | omega) | (apply pg_L.step <;> first | assumption | omega)) (by first | omega | ((have h09 : ((0 : Int32)).toInt = 0 := by decide); omega)) (by omega) (Nat.lt_succ_self _) hP hD hS (lv_sub hl [0, 1, 2] rfl)
  · skip
    obtain ⟨x142, x143, x144, x145, fn146, oa_x142, ob_x142, oa_x143, ob_x143, oa_x144, ob_x144, pt0_ra1, pt1_ra1, pt2_ra1, pt3_ra1, hP1, hK1, hD1⟩ := hB
    rw [ht] at hP1
    obtain ⟨hP2, hD2⟩ := va_join (wr := []) (w1 := (wd_1ad0248d h0 h1 h3 x142 h1 h2 v1 x143 x144 x145 h2 g0 f5 h3 g1 fn146)) hP hD [0, 1, 2, 3] [] rfl rfl (by decide) (by decide) hk1 hFc hP1 hD1
    clear hP hD hPc hDc hKc hFc hP1 hK1 hD1 hk1 hz1
    generalize H1 = H at hP2 hS ⊢
    have hP : va_P (dC, dI) vwCl (wd_1ad0248d h0 h1 h3 x142 h1 h2 v1 x143 x144 x145 h2 g0 f5 h3 g1 fn146) H := hP2
    have hD : va_D A (wd_1ad0248d h0 h1 h3 x142 h1 h2 v1 x143 x144 x145 h2 g0 f5 h3 g1 fn146) := hD2
    clear hP2 hD2
    obtain rfl : ra1 = (0 : Int32) := pv_cs (by decide) pt0_ra1 pt1_ra1
    refine lv_if_ne (tgt := 10) hx hb dX3_readTerm_5 (by decide) (fun c => absurd (by decide) c) (fun _ => ?_)
    refine lv_iconst (v := 0) hx hb dX3_readTerm_8 (by decide) ?_
    subst hQ
    have hP9 := hP.sub (ws' := (wd_1ad0248d h0 h1 h3 x142 h1 h2 v1 x143 x144 x145 h2 g0 f5 h3 g1 fn146)) [0, 1, 2, 3] rfl
    have hD9 := hD.sub (ws' := (wd_1ad0248d h0 h1 h3 x142 h1 h2 v1 x143 x144 x145 h2 g0 f5 h3 g1 fn146)) [0, 1, 2, 3] (by decide) rfl
    have hK9 := hK.sub (tys' := []) [] rfl
    exact W.zret (v := 0) hx hb hr rfl (fun t ht hW => ⟨⟨0, 0, rfl, rfl, Or.inr (⟨x142, x143, x144, x145, fn146, oa_x142, ob_x142, oa_x143, ob_x143, oa_x144, ob_x144, by first | omega | decide, by first | omega | decide, by omega, by first | assumption | (apply pg_row.no <;> first | assumption | omega) | (apply pg_L.no <;> first | assumption | omega), by rw [ht]; exact hP9, va_K.moved hW.alike hK9, hD9⟩)⟩, hS.F ht⟩) hS.2.2 dX3_readTerm_9
