def q_X8_place_8 : List Cond := .code yX8_place cX8_place 5 (some .boolean) :: (([.fieldLink RX8 30 "LeftArguments$Rows" "bags" "I", .code yX8_standsWell cX8_standsWell 3 (some .boolean), .fieldLink RX8 37 "LeftArguments$Rows" "byRoom" "Z", .fieldLink RX8 27 "LeftArguments$Rows" "standing" "[I", .fieldLink RX8 15 "LeftArguments$Rows" "circles" "[I", .fieldLink RX8 24 "LeftArguments$Rows" "loads" "[I", .fieldLink RX8 9 "LeftArguments$Rows" "sizes" "[I", .fieldLink RX8 34 "LeftArguments$Rows" "wide" "I", .initialized RX8, .instanceMethod yX8_standsWell, .selects RX8 yX8_standsWell yX8_standsWell, .methodLink RX8 68 yX8_standsWell, .fieldLink RX8 21 "LeftArguments$Rows" "chosen" "[I", .fieldLink RX8 18 "LeftArguments$Rows" "places" "[I", .methodLink RX8 72 Lib.Math.max.name, .static Lib.Math.max.name, .initialized "java/lang/Math", .code Lib.Math.max.name Lib.Math.max.code 2 (some .int), .code yX8_place cX8_place 5 (some .boolean), .instanceMethod yX8_place, .selects RX8 yX8_place yX8_place, .methodLink RX8 64 yX8_place] : List Cond) ++ wsX80)
set_option maxRecDepth 20000 in
theorem g_X8_place_8_0 : GoodIn q_X8_place_8 (wsV RX8 68 RX8 yX8_standsWell q_X8_standsWell) := goodIn_app (goodIn_r _ [12, 10, 11, 9] (by decide +kernel) (by decide +kernel)) (goodIn_ca (goodIn_r (.code yX8_standsWell cX8_standsWell 3 (some .boolean) :: [.fieldLink RX8 37 "LeftArguments$Rows" "byRoom" "Z", .fieldLink RX8 27 "LeftArguments$Rows" "standing" "[I", .fieldLink RX8 15 "LeftArguments$Rows" "circles" "[I", .fieldLink RX8 24 "LeftArguments$Rows" "loads" "[I", .fieldLink RX8 9 "LeftArguments$Rows" "sizes" "[I", .fieldLink RX8 34 "LeftArguments$Rows" "wide" "I"]) [2, 3, 4, 5, 6, 7, 8] (by decide +kernel) (by decide +kernel)) (goodIn_sub (fun _ h => List.mem_cons_of_mem _ (List.mem_append_right _ h)) gwX8))
set_option maxRecDepth 20000 in
theorem g_X8_place_8_1 : GoodIn q_X8_place_8 (wsV RX8 64 RX8 yX8_place q_X8_place_7) := goodIn_app (goodIn_r _ [22, 20, 21, 9] (by decide +kernel) (by decide +kernel)) (goodIn_ca (goodIn_r (.code yX8_place cX8_place 5 (some .boolean) :: [.fieldLink RX8 30 "LeftArguments$Rows" "bags" "I", .code yX8_standsWell cX8_standsWell 3 (some .boolean), .fieldLink RX8 37 "LeftArguments$Rows" "byRoom" "Z", .fieldLink RX8 27 "LeftArguments$Rows" "standing" "[I", .fieldLink RX8 15 "LeftArguments$Rows" "circles" "[I", .fieldLink RX8 24 "LeftArguments$Rows" "loads" "[I", .fieldLink RX8 9 "LeftArguments$Rows" "sizes" "[I", .fieldLink RX8 34 "LeftArguments$Rows" "wide" "I", .initialized RX8, .instanceMethod yX8_standsWell, .selects RX8 yX8_standsWell yX8_standsWell, .methodLink RX8 68 yX8_standsWell, .fieldLink RX8 21 "LeftArguments$Rows" "chosen" "[I", .fieldLink RX8 18 "LeftArguments$Rows" "places" "[I", .methodLink RX8 72 Lib.Math.max.name, .static Lib.Math.max.name, .initialized "java/lang/Math", .code Lib.Math.max.name Lib.Math.max.code 2 (some .int), .code yX8_place cX8_place 5 (some .boolean), .instanceMethod yX8_place, .selects RX8 yX8_place yX8_place, .methodLink RX8 64 yX8_place]) [19, 1, 2, 3, 4, 5, 6, 7, 8, 9, 10, 11, 12, 13, 14, 15, 16, 17, 18, 19, 20, 21, 22] (by decide +kernel) (by decide +kernel)) (goodIn_sub (fun _ h => List.mem_cons_of_mem _ (List.mem_append_right _ h)) gwX8))
set_option maxHeartbeats 4000000 in
set_option maxRecDepth 100000 in
theorem k_X8_place_8 (l : Launch) (dC : Nat → ClassId) (dI : Nat → Nat → Nat) (h0 : Nat) (h1 : Nat) (h2 : Nat) (h3 : Nat) (h4 : Nat) (h5 : Nat) (h6 : Nat) (v0 : Int32) (v1 : Int32) (v2 : Int32) (g0 : ClassId) (f3 : Nat → Int32) (g1 : ClassId) (f4 : Nat → Int32) (g2 : ClassId) (f5 : Nat → Int32) (g3 : ClassId) (f6 : Nat → Int32) (g4 : ClassId) (f7 : Nat → Int32) (g5 : ClassId) (f8 : Nat → Int32) (v9 : Int32) (v10 : Int32) (i_v2 : 0 ≤ v2.toInt ∧ v2.toInt ≤ 1) (sz : Nat) : Met l yX8_place q_X8_place_8 ({ frames := 8, cells := 0, slots := 0, locals := 192 }) (va_Pc [.ref h0, .int 0, .int v9, .int v10] (fun U => U.heap.size = sz ∧ va_P (dC, dI) vwCl [(h0, .inr (8, [.ref h1, .ref h2, .ref h3, .ref h4, .ref h5, .ref h6, .int v0, .int v1, .int v2])), (h1, .inl (g0, 8, .inl f3)), (h2, .inl (g1, 8, .inl f4)), (h3, .inl (g2, 8, .inl f5)), (h4, .inl (g3, 8, .inl f6)), (h5, .inl (g4, 8, .inl f7)), (h6, .inl (g5, 8, .inl f8))] U.heap ∧ va_K (dC, dI) vwCl [(g0, .int), (g1, .int), (g2, .int), (g3, .int), (g4, .int), (g5, .int)] U ∧ va_D (fun _ => True) [(h0, .inr (8, [.ref h1, .ref h2, .ref h3, .ref h4, .ref h5, .ref h6, .int v0, .int v1, .int v2])), (h1, .inl (g0, 8, .inl f3)), (h2, .inl (g1, 8, .inl f4)), (h3, .inl (g2, 8, .inl f5)), (h4, .inl (g3, 8, .inl f6)), (h5, .inl (g4, 8, .inl f7)), (h6, .inl (g5, 8, .inl f8))])) (va_Qi (fun (r : Int32) (_ : Unit) => 0 ≤ r.toInt ∧ r.toInt ≤ 1) (fun (_ : Unit) (t : State) => ∃ (o_h4 : Nat → Int32) (o_h5 : Nat → Int32) (o_h6 : Nat → Int32), va_P (dC, dI) vwCl [(h0, .inr (8, [.ref h1, .ref h2, .ref h3, .ref h4, .ref h5, .ref h6, .int v0, .int v1, .int v2])), (h1, .inl (g0, 8, .inl f3)), (h2, .inl (g1, 8, .inl f4)), (h3, .inl (g2, 8, .inl f5)), (h4, .inl (g3, 8, .inl o_h4)), (h5, .inl (g4, 8, .inl o_h5)), (h6, .inl (g5, 8, .inl o_h6))] t.heap ∧ va_K (dC, dI) vwCl [] t ∧ va_D (va_A [(h0, .inr (8, [.ref h1, .ref h2, .ref h3, .ref h4, .ref h5, .ref h6, .int v0, .int v1, .int v2])), (h1, .inl (g0, 8, .inl f3)), (h2, .inl (g1, 8, .inl f4)), (h3, .inl (g2, 8, .inl f5)), (h4, .inl (g3, 8, .inl f6)), (h5, .inl (g4, 8, .inl f7)), (h6, .inl (g5, 8, .inl f8))] sz) [(h0, .inr (8, [.ref h1, .ref h2, .ref h3, .ref h4, .ref h5, .ref h6, .int v0, .int v1, .int v2])), (h1, .inl (g0, 8, .inl f3)), (h2, .inl (g1, 8, .inl f4)), (h3, .inl (g2, 8, .inl f5)), (h4, .inl (g3, 8, .inl o_h4)), (h5, .inl (g4, 8, .inl o_h5)), (h6, .inl (g5, 8, .inl o_h6))]) (va_A [(h0, .inr (8, [.ref h1, .ref h2, .ref h3, .ref h4, .ref h5, .ref h6, .int v0, .int v1, .int v2])), (h1, .inl (g0, 8, .inl f3)), (h2, .inl (g1, 8, .inl f4)), (h3, .inl (g2, 8, .inl f5)), (h4, .inl (g3, 8, .inl f6)), (h5, .inl (g4, 8, .inl f7)), (h6, .inl (g5, 8, .inl f8))] sz)) 0 0 (va_A [(h0, .inr (8, [.ref h1, .ref h2, .ref h3, .ref h4, .ref h5, .ref h6, .int v0, .int v1, .int v2])), (h1, .inl (g0, 8, .inl f3)), (h2, .inl (g1, 8, .inl f4)), (h3, .inl (g2, 8, .inl f5)), (h4, .inl (g3, 8, .inl f6)), (h5, .inl (g4, 8, .inl f7)), (h6, .inl (g5, 8, .inl f8))] sz) := by
  refine Met.ofW (cc := cX8_place) (maxL := 5) (ret := (some .boolean)) (by decide) rfl ?_
  intro p e s m args below meth c s₁ B hml hv
  obtain ⟨i_v2a, i_v2b⟩ := i_v2
  obtain ⟨rfl, hsz, hP, hK, hD0⟩ := hv
  have hx := B.exec
  have hb := B.bytes
  have hr := B.returns
  have hts := atoms_spec (ws := q_X8_place_8) B.pre
  have hown : s.vm.findClass RX8 = some m.cls := findClass_of_methodNamed B.named
  have hlocks := B.notSynchronized
  subst hsz
  have hD := hD0.self (sz := s.heap.size)
  generalize hAe : va_A [(h0, .inr (8, [.ref h1, .ref h2, .ref h3, .ref h4, .ref h5, .ref h6, .int v0, .int v1, .int v2])), (h1, .inl (g0, 8, .inl f3)), (h2, .inl (g1, 8, .inl f4)), (h3, .inl (g2, 8, .inl f5)), (h4, .inl (g3, 8, .inl f6)), (h5, .inl (g4, 8, .inl f7)), (h6, .inl (g5, 8, .inl f8))] s.heap.size = A at hD ⊢
  have hA : ∀ q : Nat, s.heap.size ≤ q → A q := fun q h => by rw [← hAe]; exact Or.inr h
  have hS : va_S A s.heap s.heap [] := va_S.rf
  generalize hQ : (MQ below _ _ s 0 0 A) = Q
  have hl := lv_entry ([.ref h0, .int 0, .int v9, .int v10]) (n := 5) (Nat.le_of_ble_eq_true rfl)
  rw [lg_entry_eq]
  generalize (lg_sl ([.ref h0, .int 0, .int v9, .int v10]) ++ List.replicate (5 - (lg_sl ([.ref h0, .int 0, .int v9, .int v10])).length) Slot.unset).toArray = ls at hl ⊢
  have hl : lv_has ls 5 [(0, .ref h0), (1, .int 0), (2, .int v9), (3, .int v10)] := hl
  obtain ⟨H, hH⟩ : ∃ H : Heap, H = s.heap := ⟨_, rfl⟩
  obtain ⟨locs, hlocs⟩ : ∃ y : List Loc, y = [] := ⟨_, rfl⟩
  have hS : va_S A s.heap H locs := by rw [hH, hlocs]; exact va_S.rf
  have hP : va_P (dC, dI) vwCl [(h0, .inr (8, [.ref h1, .ref h2, .ref h3, .ref h4, .ref h5, .ref h6, .int v0, .int v1, .int v2])), (h1, .inl (g0, 8, .inl f3)), (h2, .inl (g1, 8, .inl f4)), (h3, .inl (g2, 8, .inl f5)), (h4, .inl (g3, 8, .inl f6)), (h5, .inl (g4, 8, .inl f7)), (h6, .inl (g5, 8, .inl f8))] H := by rw [hH]; exact hP
  rw [← hH, ← hlocs]
  refine lv_iload_n hx hb dX8_place_0 rfl (lv_at hl 1 rfl) ?_
  refine lv_if_lt (tgt := 18) hx hb dX8_place_1 (by decide) (fun c => absurd c (by decide)) (fun _ => ?_)
  refine lv_iload_n hx hb dX8_place_4 rfl (lv_at hl 1 rfl) ?_
  refine lv_aload_n hx hb dX8_place_5 rfl (lv_at hl 0 rfl) ?_
  refine va_get (D := (dC, dI)) (ci := 8) (v := .int v0) (C := RX8) (T := TX8) (N := 9) hx hb hts (fun _ h => List.mem_cons_of_mem _ (List.mem_append_right _ h)) hown hK hP 0 rfl rfl 6 (by decide) (hts (.fieldLink RX8 30 "LeftArguments$Rows" "bags" "I") (List.mem_cons_of_mem _ (List.mem_append_left _ (List.mem_of_getElem? (i := 0) rfl)))) (fun _ h9 => h9) rfl dX8_place_6 ?_
  refine lv_icmp_ge (tgt := 18) hx hb dX8_place_9 (by decide) (fun c1 => ?_) (fun c1 => ?_)
  · skip
    have fc1 : v0.toInt ≤ 0 := Int32.le_iff_toInt_le.mp c1
    refine lv_iconst (v := 1) hx hb dX8_place_18 (by decide) ?_
    subst hQ
    have hP9 := hP.sub (ws' := [(h0, .inr (8, [.ref h1, .ref h2, .ref h3, .ref h4, .ref h5, .ref h6, .int v0, .int v1, .int v2])), (h1, .inl (g0, 8, .inl f3)), (h2, .inl (g1, 8, .inl f4)), (h3, .inl (g2, 8, .inl f5)), (h4, .inl (g3, 8, .inl f6)), (h5, .inl (g4, 8, .inl f7)), (h6, .inl (g5, 8, .inl f8))]) [0, 1, 2, 3, 4, 5, 6] rfl
    have hD9 := hD.sub (ws' := [(h0, .inr (8, [.ref h1, .ref h2, .ref h3, .ref h4, .ref h5, .ref h6, .int v0, .int v1, .int v2])), (h1, .inl (g0, 8, .inl f3)), (h2, .inl (g1, 8, .inl f4)), (h3, .inl (g2, 8, .inl f5)), (h4, .inl (g3, 8, .inl f6)), (h5, .inl (g4, 8, .inl f7)), (h6, .inl (g5, 8, .inl f8))]) [0, 1, 2, 3, 4, 5, 6] (by decide) rfl
    have hK9 := hK.sub (tys' := []) [] rfl
    exact W.zret (v := 1) hx hb hr rfl (fun t ht hW => ⟨⟨1, (), rfl, ⟨by first | omega | decide, by first | omega | decide⟩, f6, f7, f8, by rw [ht]; exact hP9, va_K.moved hW.alike hK9, hD9⟩, hS.F ht⟩) hS.2.2 dX8_place_19
  · skip
    have fc1 : ¬ (v0.toInt ≤ 0) := fun h9 => c1 (Int32.le_iff_toInt_le.mpr h9)
    refine lv_iload_n hx hb dX8_place_12 rfl (lv_at hl 1 rfl) ?_
    refine lv_bipush (v := 8) hx hb dX8_place_13 (by decide) ?_
    refine lv_icmp_lt (tgt := 20) hx hb dX8_place_15 (by decide) (fun _ => ?_) (fun c => absurd (by decide) c)
    refine lv_iconst (v := 0) hx hb dX8_place_20 (by decide) ?_
    refine lv_istore (lv' := [(4, .int 0), (0, .ref h0), (1, .int 0), (2, .int v9), (3, .int v10)]) hx hb dX8_place_21 hl (by decide) rfl (fun ls hl => ?_)
    have hL22 : ∀ (n9 : Nat), ∀ (x14 : Int32) (fn15 : Nat → Int32) (fn16 : Nat → Int32) (fn17 : Nat → Int32) (H : Heap) (locs : List Loc) (ls : Array Slot), 0 ≤ x14.toInt → x14.toInt ≤ 8 → (8 - x14.toInt).toNat < n9 → va_P (dC, dI) vwCl [(h0, .inr (8, [.ref h1, .ref h2, .ref h3, .ref h4, .ref h5, .ref h6, .int v0, .int v1, .int v2])), (h1, .inl (g0, 8, .inl f3)), (h2, .inl (g1, 8, .inl f4)), (h3, .inl (g2, 8, .inl f5)), (h4, .inl (g3, 8, .inl fn15)), (h5, .inl (g4, 8, .inl fn16)), (h6, .inl (g5, 8, .inl fn17))] H → va_D A [(h0, .inr (8, [.ref h1, .ref h2, .ref h3, .ref h4, .ref h5, .ref h6, .int v0, .int v1, .int v2])), (h1, .inl (g0, 8, .inl f3)), (h2, .inl (g1, 8, .inl f4)), (h3, .inl (g2, 8, .inl f5)), (h4, .inl (g3, 8, .inl fn15)), (h5, .inl (g4, 8, .inl fn16)), (h6, .inl (g5, 8, .inl fn17))] → va_S A s.heap H locs → lv_has ls 5 [(4, .int x14), (0, .ref h0), (1, .int 0), (2, .int v9), (3, .int v10)] → W p l e ({ frames := 8, cells := 0, slots := 0, locals := 192 }) s m ([.ref h0, .int 0, .int v9, .int v10] : List Value).toArray below meth c H locs 0 0 Q (F0 m 23 ls []) := by
      intro n9
      induction n9 with
      | zero => intro x14 fn15 fn16 fn17 H locs ls qa_x14 qb_x14 hm9 hP hD hS hl; exact absurd hm9 (Nat.not_lt_zero _)
      | succ n9 ih =>
        intro x14 fn15 fn16 fn17 H locs ls qa_x14 qb_x14 hm9 hP hD hS hl
        refine lv_iload hx hb dX8_place_23 (lv_at hl 0 rfl) ?_
        refine lv_iload_n hx hb dX8_place_25 rfl (lv_at hl 3 rfl) ?_
        refine lv_icmp_gt (tgt := 157) hx hb dX8_place_26 (by decide) (fun c23 => ?_) (fun c23 => ?_)
        · skip
          have fc23 : v9.toInt < x14.toInt := Int32.lt_iff_toInt_lt.mp c23
          have r1c23 := Int32.toInt_lt x14
          have r2c23 := Int32.toInt_lt v9
          have r3c23 := Int32.le_toInt x14
          have r4c23 := Int32.le_toInt v9
          refine lv_iconst (v := 0) hx hb dX8_place_157 (by decide) ?_
          subst hQ
          have hP9 := hP.sub (ws' := [(h0, .inr (8, [.ref h1, .ref h2, .ref h3, .ref h4, .ref h5, .ref h6, .int v0, .int v1, .int v2])), (h1, .inl (g0, 8, .inl f3)), (h2, .inl (g1, 8, .inl f4)), (h3, .inl (g2, 8, .inl f5)), (h4, .inl (g3, 8, .inl fn15)), (h5, .inl (g4, 8, .inl fn16)), (h6, .inl (g5, 8, .inl fn17))]) [0, 1, 2, 3, 4, 5, 6] rfl
          have hD9 := hD.sub (ws' := [(h0, .inr (8, [.ref h1, .ref h2, .ref h3, .ref h4, .ref h5, .ref h6, .int v0, .int v1, .int v2])), (h1, .inl (g0, 8, .inl f3)), (h2, .inl (g1, 8, .inl f4)), (h3, .inl (g2, 8, .inl f5)), (h4, .inl (g3, 8, .inl fn15)), (h5, .inl (g4, 8, .inl fn16)), (h6, .inl (g5, 8, .inl fn17))]) [0, 1, 2, 3, 4, 5, 6] (by decide) rfl
          have hK9 := hK.sub (tys' := []) [] rfl
          exact W.zret (v := 0) hx hb hr rfl (fun t ht hW => ⟨⟨0, (), rfl, ⟨by first | omega | decide, by first | omega | decide⟩, fn15, fn16, fn17, by rw [ht]; exact hP9, va_K.moved hW.alike hK9, hD9⟩, hS.F ht⟩) hS.2.2 dX8_place_158
        · skip
          have fc23 : ¬ (v9.toInt < x14.toInt) := fun h9 => c23 (Int32.lt_iff_toInt_lt.mpr h9)
          have r1c23 := Int32.toInt_lt x14
          have r2c23 := Int32.toInt_lt v9
          have r3c23 := Int32.le_toInt x14
          have r4c23 := Int32.le_toInt v9
          refine lv_iload hx hb dX8_place_29 (lv_at hl 0 rfl) ?_
          refine lv_iload_n hx hb dX8_place_31 rfl (lv_at hl 4 rfl) ?_
          refine lv_icmp_ge (tgt := 157) hx hb dX8_place_32 (by decide) (fun c24 => ?_) (fun c24 => ?_)
          · skip
            have fc24 : v10.toInt ≤ x14.toInt := Int32.le_iff_toInt_le.mp c24
            have r1c24 := Int32.toInt_lt x14
            have r2c24 := Int32.toInt_lt v10
            have r3c24 := Int32.le_toInt x14
            have r4c24 := Int32.le_toInt v10
            refine lv_iconst (v := 0) hx hb dX8_place_157 (by decide) ?_
            subst hQ
            have hP9 := hP.sub (ws' := [(h0, .inr (8, [.ref h1, .ref h2, .ref h3, .ref h4, .ref h5, .ref h6, .int v0, .int v1, .int v2])), (h1, .inl (g0, 8, .inl f3)), (h2, .inl (g1, 8, .inl f4)), (h3, .inl (g2, 8, .inl f5)), (h4, .inl (g3, 8, .inl fn15)), (h5, .inl (g4, 8, .inl fn16)), (h6, .inl (g5, 8, .inl fn17))]) [0, 1, 2, 3, 4, 5, 6] rfl
            have hD9 := hD.sub (ws' := [(h0, .inr (8, [.ref h1, .ref h2, .ref h3, .ref h4, .ref h5, .ref h6, .int v0, .int v1, .int v2])), (h1, .inl (g0, 8, .inl f3)), (h2, .inl (g1, 8, .inl f4)), (h3, .inl (g2, 8, .inl f5)), (h4, .inl (g3, 8, .inl fn15)), (h5, .inl (g4, 8, .inl fn16)), (h6, .inl (g5, 8, .inl fn17))]) [0, 1, 2, 3, 4, 5, 6] (by decide) rfl
            have hK9 := hK.sub (tys' := []) [] rfl
            exact W.zret (v := 0) hx hb hr rfl (fun t ht hW => ⟨⟨0, (), rfl, ⟨by first | omega | decide, by first | omega | decide⟩, fn15, fn16, fn17, by rw [ht]; exact hP9, va_K.moved hW.alike hK9, hD9⟩, hS.F ht⟩) hS.2.2 dX8_place_158
          · skip
            have fc24 : ¬ (v10.toInt ≤ x14.toInt) := fun h9 => c24 (Int32.le_iff_toInt_le.mpr h9)
            have r1c24 := Int32.toInt_lt x14
            have r2c24 := Int32.toInt_lt v10
            have r3c24 := Int32.le_toInt x14
            have r4c24 := Int32.le_toInt v10
            refine lv_iload hx hb dX8_place_35 (lv_at hl 0 rfl) ?_
            refine lv_bipush (v := 8) hx hb dX8_place_37 (by decide) ?_
            refine lv_icmp_ge (tgt := 157) hx hb dX8_place_39 (by decide) (fun c25 => ?_) (fun c25 => ?_)
            · skip
              have fc25 : 8 ≤ x14.toInt := Int32.le_iff_toInt_le.mp c25
              refine lv_iconst (v := 0) hx hb dX8_place_157 (by decide) ?_
              subst hQ
              have hP9 := hP.sub (ws' := [(h0, .inr (8, [.ref h1, .ref h2, .ref h3, .ref h4, .ref h5, .ref h6, .int v0, .int v1, .int v2])), (h1, .inl (g0, 8, .inl f3)), (h2, .inl (g1, 8, .inl f4)), (h3, .inl (g2, 8, .inl f5)), (h4, .inl (g3, 8, .inl fn15)), (h5, .inl (g4, 8, .inl fn16)), (h6, .inl (g5, 8, .inl fn17))]) [0, 1, 2, 3, 4, 5, 6] rfl
              have hD9 := hD.sub (ws' := [(h0, .inr (8, [.ref h1, .ref h2, .ref h3, .ref h4, .ref h5, .ref h6, .int v0, .int v1, .int v2])), (h1, .inl (g0, 8, .inl f3)), (h2, .inl (g1, 8, .inl f4)), (h3, .inl (g2, 8, .inl f5)), (h4, .inl (g3, 8, .inl fn15)), (h5, .inl (g4, 8, .inl fn16)), (h6, .inl (g5, 8, .inl fn17))]) [0, 1, 2, 3, 4, 5, 6] (by decide) rfl
              have hK9 := hK.sub (tys' := []) [] rfl
              exact W.zret (v := 0) hx hb hr rfl (fun t ht hW => ⟨⟨0, (), rfl, ⟨by first | omega | decide, by first | omega | decide⟩, fn15, fn16, fn17, by rw [ht]; exact hP9, va_K.moved hW.alike hK9, hD9⟩, hS.F ht⟩) hS.2.2 dX8_place_158
            · skip
              have fc25 : ¬ (8 ≤ x14.toInt) := fun h9 => c25 (Int32.le_iff_toInt_le.mpr h9)
              refine lv_aload_n hx hb dX8_place_42 rfl (lv_at hl 1 rfl) ?_
              refine lv_iload_n hx hb dX8_place_43 rfl (lv_at hl 2 rfl) ?_
              refine lv_iload hx hb dX8_place_44 (lv_at hl 0 rfl) ?_
              have hPc := hP.sub (ws' := [(h0, .inr (8, [.ref h1, .ref h2, .ref h3, .ref h4, .ref h5, .ref h6, .int v0, .int v1, .int v2])), (h1, .inl (g0, 8, .inl f3)), (h2, .inl (g1, 8, .inl f4)), (h5, .inl (g4, 8, .inl fn16)), (h6, .inl (g5, 8, .inl fn17))]) [0, 1, 2, 5, 6] rfl
              have hDc := hD.sub (ws' := [(h0, .inr (8, [.ref h1, .ref h2, .ref h3, .ref h4, .ref h5, .ref h6, .int v0, .int v1, .int v2])), (h1, .inl (g0, 8, .inl f3)), (h2, .inl (g1, 8, .inl f4)), (h5, .inl (g4, 8, .inl fn16)), (h6, .inl (g5, 8, .inl fn17))]) [0, 1, 2, 5, 6] (by decide) rfl
              have hKc := hK.sub (tys' := [(g0, .int), (g1, .int), (g4, .int), (g5, .int)]) [0, 1, 4, 5] rfl
              have hFc := va_free (wc := [(h0, .inr (8, [.ref h1, .ref h2, .ref h3, .ref h4, .ref h5, .ref h6, .int v0, .int v1, .int v2])), (h1, .inl (g0, 8, .inl f3)), (h2, .inl (g1, 8, .inl f4)), (h5, .inl (g4, 8, .inl fn16)), (h6, .inl (g5, 8, .inl fn17))]) hD hS hA [0, 1, 2, 5, 6] rfl
              refine va_calli (va_runV (As := [.int 0, .int x14]) (rest := []) ⟨hx, hb, hml, hown, hts⟩ (k_X8_standsWell l dC dI h0 h1 h2 h5 h6 h3 h4 v0 v1 v2 g0 f3 g1 f4 g4 fn16 g5 fn17 0 x14 ⟨by first | omega | decide, by first | omega | decide⟩ H.size) (cwV 2 hts g_X8_place_8_0 rfl rfl rfl (by decide +kernel) ⟨Nat.le_of_ble_eq_true rfl, Nat.le_of_ble_eq_true rfl⟩) ⟨fun a U g mk q => by obtain ⟨q0, q1, qP, qK, qD⟩ := q; exact ⟨q0, q1, qP, va_K.moved (u := U) (U := U.calling g mk a) (Vm.Alike.refl U.vm) qK, qD⟩, va_recv hKc hPc (ci := 8) (q0 := 0) rfl rfl, fun U hU hW => ⟨rfl, by rw [hU], by rw [hU]; exact hPc, va_K.moved hW.alike hKc, hDc.weaken (fun _ _ _ _ => trivial)⟩⟩ rfl rfl hl.1 rfl (lv_room (Nat.le_of_ble_eq_true rfl)) dX8_place_46 ⟨Nat.le_of_ble_eq_true rfl, Nat.le_of_ble_eq_true rfl⟩) hS (fun q _ h => hFc q h) hFc (fun ra26 u t H1 locs ht hvm hwra26 hB hz1 hk1 hS => ?_)
              obtain ⟨hP1, hK1, hD1⟩ := hB
              rw [ht] at hP1
              obtain ⟨hP, hD⟩ := va_join (wr := [(h3, .inl (g2, 8, .inl f5)), (h4, .inl (g3, 8, .inl fn15))]) (w1 := [(h0, .inr (8, [.ref h1, .ref h2, .ref h3, .ref h4, .ref h5, .ref h6, .int v0, .int v1, .int v2])), (h1, .inl (g0, 8, .inl f3)), (h2, .inl (g1, 8, .inl f4)), (h5, .inl (g4, 8, .inl fn16)), (h6, .inl (g5, 8, .inl fn17))]) hP hD [0, 1, 2, 5, 6] [3, 4] rfl rfl (by decide) (by decide) hk1 hFc hP1 hD1
              generalize H1 = H at hP hS ⊢
              have hP := hP.sub (ws' := [(h0, .inr (8, [.ref h1, .ref h2, .ref h3, .ref h4, .ref h5, .ref h6, .int v0, .int v1, .int v2])), (h1, .inl (g0, 8, .inl f3)), (h2, .inl (g1, 8, .inl f4)), (h3, .inl (g2, 8, .inl f5)), (h4, .inl (g3, 8, .inl fn15)), (h5, .inl (g4, 8, .inl fn16)), (h6, .inl (g5, 8, .inl fn17))]) [2, 3, 4, 0, 1, 5, 6] rfl
              have hD := hD.sub (ws' := [(h0, .inr (8, [.ref h1, .ref h2, .ref h3, .ref h4, .ref h5, .ref h6, .int v0, .int v1, .int v2])), (h1, .inl (g0, 8, .inl f3)), (h2, .inl (g1, 8, .inl f4)), (h3, .inl (g2, 8, .inl f5)), (h4, .inl (g3, 8, .inl fn15)), (h5, .inl (g4, 8, .inl fn16)), (h6, .inl (g5, 8, .inl fn17))]) [2, 3, 4, 0, 1, 5, 6] (by decide) rfl
              have hP : va_P (dC, dI) vwCl [(h0, .inr (8, [.ref h1, .ref h2, .ref h3, .ref h4, .ref h5, .ref h6, .int v0, .int v1, .int v2])), (h1, .inl (g0, 8, .inl f3)), (h2, .inl (g1, 8, .inl f4)), (h3, .inl (g2, 8, .inl f5)), (h4, .inl (g3, 8, .inl fn15)), (h5, .inl (g4, 8, .inl fn16)), (h6, .inl (g5, 8, .inl fn17))] H := hP
              have hD : va_D A [(h0, .inr (8, [.ref h1, .ref h2, .ref h3, .ref h4, .ref h5, .ref h6, .int v0, .int v1, .int v2])), (h1, .inl (g0, 8, .inl f3)), (h2, .inl (g1, 8, .inl f4)), (h3, .inl (g2, 8, .inl f5)), (h4, .inl (g3, 8, .inl fn15)), (h5, .inl (g4, 8, .inl fn16)), (h6, .inl (g5, 8, .inl fn17))] := hD
              obtain ⟨wa_ra26, wb_ra26⟩ := hwra26
              have wa_ra26 : 0 ≤ ra26.toInt := wa_ra26
              have wb_ra26 : ra26.toInt ≤ 1 := wb_ra26
              refine lv_if_eq (tgt := 151) hx hb dX8_place_49 (by decide) (fun c27 => ?_) (fun c27 => ?_)
              · skip
                have fc27 : ra26.toInt = 0 := congrArg Int32.toInt c27
                obtain ⟨t28, et28⟩ : ∃ y : Int32, y = x14 + 1 := ⟨_, rfl⟩
                have gt28 : t28.toInt = x14.toInt + (1) := pv_add (a := x14.toInt) (b := (1)) et28 rfl (by decide) (by omega) (by omega)
                refine lv_iinc (v := t28) (lv' := [(4, .int t28), (0, .ref h0), (1, .int 0), (2, .int v9), (3, .int v10)]) hx hb dX8_place_151 hl (k := 0) rfl (by rw [et28]; rfl) (by decide) rfl (fun ls hl => ?_)
                refine lv_goto (tgt := 23) hx hb dX8_place_154 (by decide) ?_
                exact ih t28 fn15 fn16 fn17 H locs ls (by first | omega | decide) (by first | omega | decide) (by first | omega | (simp only [Int.toNat] at *; omega)) hP hD hS (lv_sub hl [0, 1, 2, 3, 4] rfl)
              · skip
                have fc27 : ¬ (ra26.toInt = 0) := fun h9 => c27 (Int32.toInt_inj.mp h9)
                refine lv_aload_n hx hb dX8_place_52 rfl (lv_at hl 1 rfl) ?_
                refine va_get (D := (dC, dI)) (ci := 8) (v := .ref h4) (C := RX8) (T := TX8) (N := 9) hx hb hts (fun _ h => List.mem_cons_of_mem _ (List.mem_append_right _ h)) hown hK hP 0 rfl rfl 3 (by decide) (hts (.fieldLink RX8 21 "LeftArguments$Rows" "chosen" "[I") (List.mem_cons_of_mem _ (List.mem_append_left _ (List.mem_of_getElem? (i := 12) rfl)))) (fun _ h9 => h9) rfl dX8_place_53 ?_
                refine lv_iload_n hx hb dX8_place_56 rfl (lv_at hl 2 rfl) ?_
                refine lv_iload hx hb dX8_place_57 (lv_at hl 0 rfl) ?_
                refine va_iast hx hb hK hP hD hS 4 3 rfl rfl (pv_c (x := 0) (n := 8) (by decide)) dX8_place_59 (fun H locs hP hD hS => ?_)
                obtain ⟨fn29, efn29⟩ : ∃ g : Nat → Int32, g = upd fn15 (Int32.toNatClampNeg 0) x14 := ⟨_, rfl⟩
                rw [← efn29] at hP hD
                have hP : va_P (dC, dI) vwCl [(h0, .inr (8, [.ref h1, .ref h2, .ref h3, .ref h4, .ref h5, .ref h6, .int v0, .int v1, .int v2])), (h1, .inl (g0, 8, .inl f3)), (h2, .inl (g1, 8, .inl f4)), (h3, .inl (g2, 8, .inl f5)), (h4, .inl (g3, 8, .inl fn29)), (h5, .inl (g4, 8, .inl fn16)), (h6, .inl (g5, 8, .inl fn17))] H := hP
                have hD : va_D A [(h0, .inr (8, [.ref h1, .ref h2, .ref h3, .ref h4, .ref h5, .ref h6, .int v0, .int v1, .int v2])), (h1, .inl (g0, 8, .inl f3)), (h2, .inl (g1, 8, .inl f4)), (h3, .inl (g2, 8, .inl f5)), (h4, .inl (g3, 8, .inl fn29)), (h5, .inl (g4, 8, .inl fn16)), (h6, .inl (g5, 8, .inl fn17))] := hD
                refine lv_aload_n hx hb dX8_place_60 rfl (lv_at hl 1 rfl) ?_
                refine va_get (D := (dC, dI)) (ci := 8) (v := .ref h5) (C := RX8) (T := TX8) (N := 9) hx hb hts (fun _ h => List.mem_cons_of_mem _ (List.mem_append_right _ h)) hown hK hP 0 rfl rfl 4 (by decide) (hts (.fieldLink RX8 24 "LeftArguments$Rows" "loads" "[I") (List.mem_cons_of_mem _ (List.mem_append_left _ (List.mem_of_getElem? (i := 5) rfl)))) (fun _ h9 => h9) rfl dX8_place_61 ?_
                refine lv_iload hx hb dX8_place_64 (lv_at hl 0 rfl) ?_
                refine lv_dup2_11 hx hb dX8_place_66 rfl rfl ?_
                refine va_iald hx hb hK hP 5 4 rfl rfl (vp_in_iff.mpr ⟨by omega, by omega⟩) dX8_place_67 ?_
                refine lv_topi (fun t30 et30 => ?_)
                refine lv_aload_n hx hb dX8_place_68 rfl (lv_at hl 1 rfl) ?_
                refine va_get (D := (dC, dI)) (ci := 8) (v := .ref h1) (C := RX8) (T := TX8) (N := 9) hx hb hts (fun _ h => List.mem_cons_of_mem _ (List.mem_append_right _ h)) hown hK hP 0 rfl rfl 0 (by decide) (hts (.fieldLink RX8 9 "LeftArguments$Rows" "sizes" "[I") (List.mem_cons_of_mem _ (List.mem_append_left _ (List.mem_of_getElem? (i := 6) rfl)))) (fun _ h9 => h9) rfl dX8_place_69 ?_
                refine lv_iload_n hx hb dX8_place_72 rfl (lv_at hl 2 rfl) ?_
                refine va_iald hx hb hK hP 1 0 rfl rfl (pv_c (x := 0) (n := 8) (by decide)) dX8_place_73 ?_
                refine lv_topi (fun t31 et31 => ?_)
                refine lv_iadd hx hb dX8_place_74 ?_
                refine lv_topi (fun t32 et32 => ?_)
                refine va_iast hx hb hK hP hD hS 5 4 rfl rfl (vp_in_iff.mpr ⟨by omega, by omega⟩) dX8_place_75 (fun H locs hP hD hS => ?_)
                obtain ⟨fn33, efn33⟩ : ∃ g : Nat → Int32, g = upd fn16 (Int32.toNatClampNeg x14) t32 := ⟨_, rfl⟩
                rw [← efn33] at hP hD
                have hP : va_P (dC, dI) vwCl [(h0, .inr (8, [.ref h1, .ref h2, .ref h3, .ref h4, .ref h5, .ref h6, .int v0, .int v1, .int v2])), (h1, .inl (g0, 8, .inl f3)), (h2, .inl (g1, 8, .inl f4)), (h3, .inl (g2, 8, .inl f5)), (h4, .inl (g3, 8, .inl fn29)), (h5, .inl (g4, 8, .inl fn33)), (h6, .inl (g5, 8, .inl fn17))] H := hP
                have hD : va_D A [(h0, .inr (8, [.ref h1, .ref h2, .ref h3, .ref h4, .ref h5, .ref h6, .int v0, .int v1, .int v2])), (h1, .inl (g0, 8, .inl f3)), (h2, .inl (g1, 8, .inl f4)), (h3, .inl (g2, 8, .inl f5)), (h4, .inl (g3, 8, .inl fn29)), (h5, .inl (g4, 8, .inl fn33)), (h6, .inl (g5, 8, .inl fn17))] := hD
                refine lv_aload_n hx hb dX8_place_76 rfl (lv_at hl 1 rfl) ?_
                refine va_get (D := (dC, dI)) (ci := 8) (v := .ref h6) (C := RX8) (T := TX8) (N := 9) hx hb hts (fun _ h => List.mem_cons_of_mem _ (List.mem_append_right _ h)) hown hK hP 0 rfl rfl 5 (by decide) (hts (.fieldLink RX8 27 "LeftArguments$Rows" "standing" "[I") (List.mem_cons_of_mem _ (List.mem_append_left _ (List.mem_of_getElem? (i := 3) rfl)))) (fun _ h9 => h9) rfl dX8_place_77 ?_
                refine lv_iload hx hb dX8_place_80 (lv_at hl 0 rfl) ?_
                refine lv_dup2_11 hx hb dX8_place_82 rfl rfl ?_
                refine va_iald hx hb hK hP 6 5 rfl rfl (vp_in_iff.mpr ⟨by omega, by omega⟩) dX8_place_83 ?_
                refine lv_topi (fun t34 et34 => ?_)
                refine lv_iconst (v := 1) hx hb dX8_place_84 (by decide) ?_
                refine lv_aload_n hx hb dX8_place_85 rfl (lv_at hl 1 rfl) ?_
                refine va_get (D := (dC, dI)) (ci := 8) (v := .ref h3) (C := RX8) (T := TX8) (N := 9) hx hb hts (fun _ h => List.mem_cons_of_mem _ (List.mem_append_right _ h)) hown hK hP 0 rfl rfl 2 (by decide) (hts (.fieldLink RX8 18 "LeftArguments$Rows" "places" "[I") (List.mem_cons_of_mem _ (List.mem_append_left _ (List.mem_of_getElem? (i := 13) rfl)))) (fun _ h9 => h9) rfl dX8_place_86 ?_
                refine lv_iload_n hx hb dX8_place_89 rfl (lv_at hl 2 rfl) ?_
                refine va_iald hx hb hK hP 3 2 rfl rfl (pv_c (x := 0) (n := 8) (by decide)) dX8_place_90 ?_
                refine lv_topi (fun t35 et35 => ?_)
                refine lv_ishl hx hb dX8_place_91 ?_
                refine lv_topi (fun t36 et36 => ?_)
                refine lv_ior hx hb dX8_place_92 ?_
                refine lv_topi (fun t37 et37 => ?_)
                refine va_iast hx hb hK hP hD hS 6 5 rfl rfl (vp_in_iff.mpr ⟨by omega, by omega⟩) dX8_place_93 (fun H locs hP hD hS => ?_)
                obtain ⟨fn38, efn38⟩ : ∃ g : Nat → Int32, g = upd fn17 (Int32.toNatClampNeg x14) t37 := ⟨_, rfl⟩
                rw [← efn38] at hP hD
                have hP : va_P (dC, dI) vwCl [(h0, .inr (8, [.ref h1, .ref h2, .ref h3, .ref h4, .ref h5, .ref h6, .int v0, .int v1, .int v2])), (h1, .inl (g0, 8, .inl f3)), (h2, .inl (g1, 8, .inl f4)), (h3, .inl (g2, 8, .inl f5)), (h4, .inl (g3, 8, .inl fn29)), (h5, .inl (g4, 8, .inl fn33)), (h6, .inl (g5, 8, .inl fn38))] H := hP
                have hD : va_D A [(h0, .inr (8, [.ref h1, .ref h2, .ref h3, .ref h4, .ref h5, .ref h6, .int v0, .int v1, .int v2])), (h1, .inl (g0, 8, .inl f3)), (h2, .inl (g1, 8, .inl f4)), (h3, .inl (g2, 8, .inl f5)), (h4, .inl (g3, 8, .inl fn29)), (h5, .inl (g4, 8, .inl fn33)), (h6, .inl (g5, 8, .inl fn38))] := hD
                refine lv_aload_n hx hb dX8_place_94 rfl (lv_at hl 1 rfl) ?_
                refine lv_iload_n hx hb dX8_place_95 rfl (lv_at hl 2 rfl) ?_
                refine lv_iconst (v := 1) hx hb dX8_place_96 (by decide) ?_
                refine lv_iadd hx hb dX8_place_97 ?_
                refine lv_topi (fun tv39 etv39 => ?_)
                obtain rfl : tv39 = (1 : Int32) := etv39.trans (by first | rfl | decide)
                refine lv_iload_n hx hb dX8_place_98 rfl (lv_at hl 3 rfl) ?_
                refine lv_iload hx hb dX8_place_99 (lv_at hl 0 rfl) ?_
                refine lv_iconst (v := 1) hx hb dX8_place_101 (by decide) ?_
                refine lv_iadd hx hb dX8_place_102 ?_
                refine lv_topi (fun t40 et40 => ?_)
                have gt40 : t40.toInt = x14.toInt + 1 := pv_add (a := x14.toInt) (b := 1) et40 rfl (by decide) (by omega) (by omega)
                refine va_mmax hx hb (by rw [hml]; exact hl.1.symm) hown (hts (.methodLink RX8 72 Lib.Math.max.name) (List.mem_cons_of_mem _ (List.mem_append_left _ (List.mem_of_getElem? (i := 14) rfl)))) (hts (.static Lib.Math.max.name) (List.mem_cons_of_mem _ (List.mem_append_left _ (List.mem_of_getElem? (i := 15) rfl)))) (hts (.initialized "java/lang/Math") (List.mem_cons_of_mem _ (List.mem_append_left _ (List.mem_of_getElem? (i := 16) rfl)))) (hts (.code Lib.Math.max.name Lib.Math.max.code 2 (some .int)) (List.mem_cons_of_mem _ (List.mem_append_left _ (List.mem_of_getElem? (i := 17) rfl)))) (Nat.le_of_ble_eq_true rfl) (Nat.le_of_ble_eq_true rfl) (Nat.le_of_ble_eq_true rfl) (Nat.le_of_ble_eq_true rfl) dX8_place_103 ?_
                refine lv_topi (fun t41 et41 => ?_)
                obtain ⟨gat41, gbt41, gct41⟩ := pv_max (a := v9.toInt) (b := t40.toInt) et41 rfl rfl
                refine lv_iload_n hx hb dX8_place_106 rfl (lv_at hl 4 rfl) ?_
                have hPc := hP.sub (ws' := [(h0, .inr (8, [.ref h1, .ref h2, .ref h3, .ref h4, .ref h5, .ref h6, .int v0, .int v1, .int v2])), (h1, .inl (g0, 8, .inl f3)), (h2, .inl (g1, 8, .inl f4)), (h3, .inl (g2, 8, .inl f5)), (h4, .inl (g3, 8, .inl fn29)), (h5, .inl (g4, 8, .inl fn33)), (h6, .inl (g5, 8, .inl fn38))]) [0, 1, 2, 3, 4, 5, 6] rfl
                have hDc := hD.sub (ws' := [(h0, .inr (8, [.ref h1, .ref h2, .ref h3, .ref h4, .ref h5, .ref h6, .int v0, .int v1, .int v2])), (h1, .inl (g0, 8, .inl f3)), (h2, .inl (g1, 8, .inl f4)), (h3, .inl (g2, 8, .inl f5)), (h4, .inl (g3, 8, .inl fn29)), (h5, .inl (g4, 8, .inl fn33)), (h6, .inl (g5, 8, .inl fn38))]) [0, 1, 2, 3, 4, 5, 6] (by decide) rfl
                have hKc := hK.sub (tys' := [(g0, .int), (g1, .int), (g2, .int), (g3, .int), (g4, .int), (g5, .int)]) [0, 1, 2, 3, 4, 5] rfl
                have hFc := va_free (wc := [(h0, .inr (8, [.ref h1, .ref h2, .ref h3, .ref h4, .ref h5, .ref h6, .int v0, .int v1, .int v2])), (h1, .inl (g0, 8, .inl f3)), (h2, .inl (g1, 8, .inl f4)), (h3, .inl (g2, 8, .inl f5)), (h4, .inl (g3, 8, .inl fn29)), (h5, .inl (g4, 8, .inl fn33)), (h6, .inl (g5, 8, .inl fn38))]) hD hS hA [0, 1, 2, 3, 4, 5, 6] rfl
                refine va_calli (va_runV (As := [.int 1, .int t41, .int v10]) (rest := []) ⟨hx, hb, hml, hown, hts⟩ (k_X8_place_7 l dC dI h0 h1 h2 h3 h4 h5 h6 v0 v1 v2 g0 f3 g1 f4 g2 f5 g3 fn29 g4 fn33 g5 fn38 t41 v10 ⟨by first | omega | decide, by first | omega | decide⟩ H.size) (cwV 3 hts g_X8_place_8_1 rfl rfl rfl (by decide +kernel) ⟨Nat.le_of_ble_eq_true rfl, Nat.le_of_ble_eq_true rfl⟩) ⟨fun a U g mk q => by obtain ⟨q0, q1, qP, qK, qD⟩ := q; exact ⟨q0, q1, qP, va_K.moved (u := U) (U := U.calling g mk a) (Vm.Alike.refl U.vm) qK, qD⟩, va_recv hKc hPc (ci := 8) (q0 := 0) rfl rfl, fun U hU hW => ⟨rfl, by rw [hU], by rw [hU]; exact hPc, va_K.moved hW.alike hKc, hDc.weaken (fun _ _ _ _ => trivial)⟩⟩ rfl rfl hl.1 rfl (lv_room (Nat.le_of_ble_eq_true rfl)) dX8_place_107 ⟨Nat.le_of_ble_eq_true rfl, Nat.le_of_ble_eq_true rfl⟩) hS (fun q _ h => hFc q h) hFc (fun ra42 u t H1 locs ht hvm hwra42 hB hz1 hk1 hS => ?_)
                obtain ⟨fn43, fn44, fn45, hP1, hK1, hD1⟩ := hB
                rw [ht] at hP1
                obtain ⟨hP, hD⟩ := va_join (wr := []) (w1 := [(h0, .inr (8, [.ref h1, .ref h2, .ref h3, .ref h4, .ref h5, .ref h6, .int v0, .int v1, .int v2])), (h1, .inl (g0, 8, .inl f3)), (h2, .inl (g1, 8, .inl f4)), (h3, .inl (g2, 8, .inl f5)), (h4, .inl (g3, 8, .inl fn43)), (h5, .inl (g4, 8, .inl fn44)), (h6, .inl (g5, 8, .inl fn45))]) hP hD [0, 1, 2, 3, 4, 5, 6] [] rfl rfl (by decide) (by decide) hk1 hFc hP1 hD1
                generalize H1 = H at hP hS ⊢
                have hP : va_P (dC, dI) vwCl [(h0, .inr (8, [.ref h1, .ref h2, .ref h3, .ref h4, .ref h5, .ref h6, .int v0, .int v1, .int v2])), (h1, .inl (g0, 8, .inl f3)), (h2, .inl (g1, 8, .inl f4)), (h3, .inl (g2, 8, .inl f5)), (h4, .inl (g3, 8, .inl fn43)), (h5, .inl (g4, 8, .inl fn44)), (h6, .inl (g5, 8, .inl fn45))] H := hP
                have hD : va_D A [(h0, .inr (8, [.ref h1, .ref h2, .ref h3, .ref h4, .ref h5, .ref h6, .int v0, .int v1, .int v2])), (h1, .inl (g0, 8, .inl f3)), (h2, .inl (g1, 8, .inl f4)), (h3, .inl (g2, 8, .inl f5)), (h4, .inl (g3, 8, .inl fn43)), (h5, .inl (g4, 8, .inl fn44)), (h6, .inl (g5, 8, .inl fn45))] := hD
                obtain ⟨wa_ra42, wb_ra42⟩ := hwra42
                have wa_ra42 : 0 ≤ ra42.toInt := wa_ra42
                have wb_ra42 : ra42.toInt ≤ 1 := wb_ra42
                refine lv_if_eq (tgt := 115) hx hb dX8_place_110 (by decide) (fun c46 => ?_) (fun c46 => ?_)
                · skip
                  have fc46 : ra42.toInt = 0 := congrArg Int32.toInt c46
                  refine lv_aload_n hx hb dX8_place_115 rfl (lv_at hl 1 rfl) ?_
                  refine va_get (D := (dC, dI)) (ci := 8) (v := .ref h5) (C := RX8) (T := TX8) (N := 9) hx hb hts (fun _ h => List.mem_cons_of_mem _ (List.mem_append_right _ h)) hown hK hP 0 rfl rfl 4 (by decide) (hts (.fieldLink RX8 24 "LeftArguments$Rows" "loads" "[I") (List.mem_cons_of_mem _ (List.mem_append_left _ (List.mem_of_getElem? (i := 5) rfl)))) (fun _ h9 => h9) rfl dX8_place_116 ?_
                  refine lv_iload hx hb dX8_place_119 (lv_at hl 0 rfl) ?_
                  refine lv_dup2_11 hx hb dX8_place_121 rfl rfl ?_
                  refine va_iald hx hb hK hP 5 4 rfl rfl (vp_in_iff.mpr ⟨by omega, by omega⟩) dX8_place_122 ?_
                  refine lv_topi (fun t47 et47 => ?_)
                  refine lv_aload_n hx hb dX8_place_123 rfl (lv_at hl 1 rfl) ?_
                  refine va_get (D := (dC, dI)) (ci := 8) (v := .ref h1) (C := RX8) (T := TX8) (N := 9) hx hb hts (fun _ h => List.mem_cons_of_mem _ (List.mem_append_right _ h)) hown hK hP 0 rfl rfl 0 (by decide) (hts (.fieldLink RX8 9 "LeftArguments$Rows" "sizes" "[I") (List.mem_cons_of_mem _ (List.mem_append_left _ (List.mem_of_getElem? (i := 6) rfl)))) (fun _ h9 => h9) rfl dX8_place_124 ?_
                  refine lv_iload_n hx hb dX8_place_127 rfl (lv_at hl 2 rfl) ?_
                  refine va_iald hx hb hK hP 1 0 rfl rfl (pv_c (x := 0) (n := 8) (by decide)) dX8_place_128 ?_
                  refine lv_topi (fun t48 et48 => ?_)
                  refine lv_isub hx hb dX8_place_129 ?_
                  refine lv_topi (fun t49 et49 => ?_)
                  refine va_iast hx hb hK hP hD hS 5 4 rfl rfl (vp_in_iff.mpr ⟨by omega, by omega⟩) dX8_place_130 (fun H locs hP hD hS => ?_)
                  obtain ⟨fn50, efn50⟩ : ∃ g : Nat → Int32, g = upd fn44 (Int32.toNatClampNeg x14) t49 := ⟨_, rfl⟩
                  rw [← efn50] at hP hD
                  have hP : va_P (dC, dI) vwCl [(h0, .inr (8, [.ref h1, .ref h2, .ref h3, .ref h4, .ref h5, .ref h6, .int v0, .int v1, .int v2])), (h1, .inl (g0, 8, .inl f3)), (h2, .inl (g1, 8, .inl f4)), (h3, .inl (g2, 8, .inl f5)), (h4, .inl (g3, 8, .inl fn43)), (h5, .inl (g4, 8, .inl fn50)), (h6, .inl (g5, 8, .inl fn45))] H := hP
                  have hD : va_D A [(h0, .inr (8, [.ref h1, .ref h2, .ref h3, .ref h4, .ref h5, .ref h6, .int v0, .int v1, .int v2])), (h1, .inl (g0, 8, .inl f3)), (h2, .inl (g1, 8, .inl f4)), (h3, .inl (g2, 8, .inl f5)), (h4, .inl (g3, 8, .inl fn43)), (h5, .inl (g4, 8, .inl fn50)), (h6, .inl (g5, 8, .inl fn45))] := hD
                  refine lv_aload_n hx hb dX8_place_131 rfl (lv_at hl 1 rfl) ?_
                  refine va_get (D := (dC, dI)) (ci := 8) (v := .ref h6) (C := RX8) (T := TX8) (N := 9) hx hb hts (fun _ h => List.mem_cons_of_mem _ (List.mem_append_right _ h)) hown hK hP 0 rfl rfl 5 (by decide) (hts (.fieldLink RX8 27 "LeftArguments$Rows" "standing" "[I") (List.mem_cons_of_mem _ (List.mem_append_left _ (List.mem_of_getElem? (i := 3) rfl)))) (fun _ h9 => h9) rfl dX8_place_132 ?_
                  refine lv_iload hx hb dX8_place_135 (lv_at hl 0 rfl) ?_
                  refine lv_dup2_11 hx hb dX8_place_137 rfl rfl ?_
                  refine va_iald hx hb hK hP 6 5 rfl rfl (vp_in_iff.mpr ⟨by omega, by omega⟩) dX8_place_138 ?_
                  refine lv_topi (fun t51 et51 => ?_)
                  refine lv_iconst (v := 1) hx hb dX8_place_139 (by decide) ?_
                  refine lv_aload_n hx hb dX8_place_140 rfl (lv_at hl 1 rfl) ?_
                  refine va_get (D := (dC, dI)) (ci := 8) (v := .ref h3) (C := RX8) (T := TX8) (N := 9) hx hb hts (fun _ h => List.mem_cons_of_mem _ (List.mem_append_right _ h)) hown hK hP 0 rfl rfl 2 (by decide) (hts (.fieldLink RX8 18 "LeftArguments$Rows" "places" "[I") (List.mem_cons_of_mem _ (List.mem_append_left _ (List.mem_of_getElem? (i := 13) rfl)))) (fun _ h9 => h9) rfl dX8_place_141 ?_
                  refine lv_iload_n hx hb dX8_place_144 rfl (lv_at hl 2 rfl) ?_
                  refine va_iald hx hb hK hP 3 2 rfl rfl (pv_c (x := 0) (n := 8) (by decide)) dX8_place_145 ?_
                  refine lv_topi (fun t52 et52 => ?_)
                  refine lv_ishl hx hb dX8_place_146 ?_
                  refine lv_topi (fun t53 et53 => ?_)
                  refine lv_iconst (v := (-1)) hx hb dX8_place_147 (by decide) ?_
                  refine lv_ixor hx hb dX8_place_148 ?_
                  refine lv_topi (fun t54 et54 => ?_)
                  refine lv_iand hx hb dX8_place_149 ?_
                  refine lv_topi (fun t55 et55 => ?_)
                  refine va_iast hx hb hK hP hD hS 6 5 rfl rfl (vp_in_iff.mpr ⟨by omega, by omega⟩) dX8_place_150 (fun H locs hP hD hS => ?_)
                  obtain ⟨fn56, efn56⟩ : ∃ g : Nat → Int32, g = upd fn45 (Int32.toNatClampNeg x14) t55 := ⟨_, rfl⟩
                  rw [← efn56] at hP hD
                  have hP : va_P (dC, dI) vwCl [(h0, .inr (8, [.ref h1, .ref h2, .ref h3, .ref h4, .ref h5, .ref h6, .int v0, .int v1, .int v2])), (h1, .inl (g0, 8, .inl f3)), (h2, .inl (g1, 8, .inl f4)), (h3, .inl (g2, 8, .inl f5)), (h4, .inl (g3, 8, .inl fn43)), (h5, .inl (g4, 8, .inl fn50)), (h6, .inl (g5, 8, .inl fn56))] H := hP
                  have hD : va_D A [(h0, .inr (8, [.ref h1, .ref h2, .ref h3, .ref h4, .ref h5, .ref h6, .int v0, .int v1, .int v2])), (h1, .inl (g0, 8, .inl f3)), (h2, .inl (g1, 8, .inl f4)), (h3, .inl (g2, 8, .inl f5)), (h4, .inl (g3, 8, .inl fn43)), (h5, .inl (g4, 8, .inl fn50)), (h6, .inl (g5, 8, .inl fn56))] := hD
                  obtain ⟨t57, et57⟩ : ∃ y : Int32, y = x14 + 1 := ⟨_, rfl⟩
                  have gt57 : t57.toInt = x14.toInt + (1) := pv_add (a := x14.toInt) (b := (1)) et57 rfl (by decide) (by omega) (by omega)
                  refine lv_iinc (v := t57) (lv' := [(4, .int t57), (0, .ref h0), (1, .int 0), (2, .int v9), (3, .int v10)]) hx hb dX8_place_151 hl (k := 0) rfl (by rw [et57]; rfl) (by decide) rfl (fun ls hl => ?_)
                  refine lv_goto (tgt := 23) hx hb dX8_place_154 (by decide) ?_
                  exact ih t57 fn43 fn50 fn56 H locs ls (by first | omega | decide) (by first | omega | decide) (by first | omega | (simp only [Int.toNat] at *; omega)) hP hD hS (lv_sub hl [0, 1, 2, 3, 4] rfl)
                · skip
                  have fc46 : ¬ (ra42.toInt = 0) := fun h9 => c46 (Int32.toInt_inj.mp h9)
                  refine lv_iconst (v := 1) hx hb dX8_place_113 (by decide) ?_
                  subst hQ
                  have hP9 := hP.sub (ws' := [(h0, .inr (8, [.ref h1, .ref h2, .ref h3, .ref h4, .ref h5, .ref h6, .int v0, .int v1, .int v2])), (h1, .inl (g0, 8, .inl f3)), (h2, .inl (g1, 8, .inl f4)), (h3, .inl (g2, 8, .inl f5)), (h4, .inl (g3, 8, .inl fn43)), (h5, .inl (g4, 8, .inl fn44)), (h6, .inl (g5, 8, .inl fn45))]) [0, 1, 2, 3, 4, 5, 6] rfl
                  have hD9 := hD.sub (ws' := [(h0, .inr (8, [.ref h1, .ref h2, .ref h3, .ref h4, .ref h5, .ref h6, .int v0, .int v1, .int v2])), (h1, .inl (g0, 8, .inl f3)), (h2, .inl (g1, 8, .inl f4)), (h3, .inl (g2, 8, .inl f5)), (h4, .inl (g3, 8, .inl fn43)), (h5, .inl (g4, 8, .inl fn44)), (h6, .inl (g5, 8, .inl fn45))]) [0, 1, 2, 3, 4, 5, 6] (by decide) rfl
                  have hK9 := hK.sub (tys' := []) [] rfl
                  exact W.zret (v := 1) hx hb hr rfl (fun t ht hW => ⟨⟨1, (), rfl, ⟨by first | omega | decide, by first | omega | decide⟩, fn43, fn44, fn45, by rw [ht]; exact hP9, va_K.moved hW.alike hK9, hD9⟩, hS.F ht⟩) hS.2.2 dX8_place_114
    exact hL22 _ 0 f6 f7 f8 H locs ls (by first | omega | decide) (by first | omega | decide) (Nat.lt_succ_self _) hP hD hS (lv_sub hl [0, 1, 2, 3, 4] rfl)
def q_X8_fewest : List Cond := .code yX8_fewest cX8_fewest 3 (some .int) :: (([.fieldLink RX8 24 "LeftArguments$Rows" "loads" "[I", .code yJ7_fill_53178 cJ7_fill_53178 4 none, .initialized RJ7, .static yJ7_fill_53178, .methodLink RX8 58 yJ7_fill_53178, .fieldLink RX8 27 "LeftArguments$Rows" "standing" "[I", .code yX8_place cX8_place 5 (some .boolean), .fieldLink RX8 30 "LeftArguments$Rows" "bags" "I", .code yX8_standsWell cX8_standsWell 3 (some .boolean), .fieldLink RX8 37 "LeftArguments$Rows" "byRoom" "Z", .fieldLink RX8 15 "LeftArguments$Rows" "circles" "[I", .fieldLink RX8 9 "LeftArguments$Rows" "sizes" "[I", .fieldLink RX8 34 "LeftArguments$Rows" "wide" "I", .initialized RX8, .instanceMethod yX8_standsWell, .selects RX8 yX8_standsWell yX8_standsWell, .methodLink RX8 68 yX8_standsWell, .fieldLink RX8 21 "LeftArguments$Rows" "chosen" "[I", .fieldLink RX8 18 "LeftArguments$Rows" "places" "[I", .methodLink RX8 72 Lib.Math.max.name, .static Lib.Math.max.name, .initialized "java/lang/Math", .code Lib.Math.max.name Lib.Math.max.code 2 (some .int), .instanceMethod yX8_place, .selects RX8 yX8_place yX8_place, .methodLink RX8 64 yX8_place] : List Cond) ++ wsX80)
set_option maxRecDepth 20000 in
theorem g_X8_fewest_0 : GoodIn q_X8_fewest (va_wsS RX8 58 yJ7_fill_53178 q_J7_fill_53178_1) := goodIn_app (goodIn_r _ [5, 4, 3] (by decide +kernel) (by decide +kernel)) (goodIn_r (.code yJ7_fill_53178 cJ7_fill_53178 4 none :: []) [2] (by decide +kernel) (by decide +kernel))
set_option maxRecDepth 20000 in
theorem g_X8_fewest_1 : GoodIn q_X8_fewest (va_wsS RX8 58 yJ7_fill_53178 q_J7_fill_53178_1) := goodIn_app (goodIn_r _ [5, 4, 3] (by decide +kernel) (by decide +kernel)) (goodIn_r (.code yJ7_fill_53178 cJ7_fill_53178 4 none :: []) [2] (by decide +kernel) (by decide +kernel))
set_option maxRecDepth 20000 in
theorem g_X8_fewest_2 : GoodIn q_X8_fewest (wsV RX8 64 RX8 yX8_place q_X8_place_8) := goodIn_app (goodIn_r _ [26, 24, 25, 14] (by decide +kernel) (by decide +kernel)) (goodIn_ca (goodIn_r (.code yX8_place cX8_place 5 (some .boolean) :: [.fieldLink RX8 30 "LeftArguments$Rows" "bags" "I", .code yX8_standsWell cX8_standsWell 3 (some .boolean), .fieldLink RX8 37 "LeftArguments$Rows" "byRoom" "Z", .fieldLink RX8 27 "LeftArguments$Rows" "standing" "[I", .fieldLink RX8 15 "LeftArguments$Rows" "circles" "[I", .fieldLink RX8 24 "LeftArguments$Rows" "loads" "[I", .fieldLink RX8 9 "LeftArguments$Rows" "sizes" "[I", .fieldLink RX8 34 "LeftArguments$Rows" "wide" "I", .initialized RX8, .instanceMethod yX8_standsWell, .selects RX8 yX8_standsWell yX8_standsWell, .methodLink RX8 68 yX8_standsWell, .fieldLink RX8 21 "LeftArguments$Rows" "chosen" "[I", .fieldLink RX8 18 "LeftArguments$Rows" "places" "[I", .methodLink RX8 72 Lib.Math.max.name, .static Lib.Math.max.name, .initialized "java/lang/Math", .code Lib.Math.max.name Lib.Math.max.code 2 (some .int), .code yX8_place cX8_place 5 (some .boolean), .instanceMethod yX8_place, .selects RX8 yX8_place yX8_place, .methodLink RX8 64 yX8_place]) [7, 8, 9, 10, 6, 11, 1, 12, 13, 14, 15, 16, 17, 18, 19, 20, 21, 22, 23, 7, 24, 25, 26] (by decide +kernel) (by decide +kernel)) (goodIn_sub (fun _ h => List.mem_cons_of_mem _ (List.mem_append_right _ h)) gwX8))
set_option maxHeartbeats 4000000 in
set_option maxRecDepth 100000 in
theorem k_X8_fewest (l : Launch) (dC : Nat → ClassId) (dI : Nat → Nat → Nat) (h0 : Nat) (h1 : Nat) (h2 : Nat) (h3 : Nat) (h4 : Nat) (h5 : Nat) (h6 : Nat) (v0 : Int32) (v1 : Int32) (v2 : Int32) (g0 : ClassId) (f3 : Nat → Int32) (g1 : ClassId) (f4 : Nat → Int32) (g2 : ClassId) (f5 : Nat → Int32) (g3 : ClassId) (f6 : Nat → Int32) (g4 : ClassId) (f7 : Nat → Int32) (g5 : ClassId) (f8 : Nat → Int32) (v9 : Int32) (i_v2 : 0 ≤ v2.toInt ∧ v2.toInt ≤ 1) (sz : Nat) : Met l yX8_fewest q_X8_fewest ({ frames := 9, cells := 0, slots := 0, locals := 216 }) (va_Pc [.ref h0, .int v9] (fun U => U.heap.size = sz ∧ va_P (dC, dI) vwCl [(h0, .inr (8, [.ref h1, .ref h2, .ref h3, .ref h4, .ref h5, .ref h6, .int v0, .int v1, .int v2])), (h1, .inl (g0, 8, .inl f3)), (h2, .inl (g1, 8, .inl f4)), (h3, .inl (g2, 8, .inl f5)), (h4, .inl (g3, 8, .inl f6)), (h5, .inl (g4, 8, .inl f7)), (h6, .inl (g5, 8, .inl f8))] U.heap ∧ va_K (dC, dI) vwCl [(g0, .int), (g1, .int), (g2, .int), (g3, .int), (g4, .int), (g5, .int)] U ∧ va_D (fun _ => True) [(h0, .inr (8, [.ref h1, .ref h2, .ref h3, .ref h4, .ref h5, .ref h6, .int v0, .int v1, .int v2])), (h1, .inl (g0, 8, .inl f3)), (h2, .inl (g1, 8, .inl f4)), (h3, .inl (g2, 8, .inl f5)), (h4, .inl (g3, 8, .inl f6)), (h5, .inl (g4, 8, .inl f7)), (h6, .inl (g5, 8, .inl f8))])) (va_Qi (fun (r : Int32) (_ : Unit) => -1 ≤ r.toInt ∧ r.toInt ≤ 8) (fun (_ : Unit) (t : State) => ∃ (o_h4 : Nat → Int32) (o_h5 : Nat → Int32) (o_h6 : Nat → Int32), va_P (dC, dI) vwCl [(h0, .inr (8, [.ref h1, .ref h2, .ref h3, .ref h4, .ref h5, .ref h6, .int v0, .int v1, .int v2])), (h1, .inl (g0, 8, .inl f3)), (h2, .inl (g1, 8, .inl f4)), (h3, .inl (g2, 8, .inl f5)), (h4, .inl (g3, 8, .inl o_h4)), (h5, .inl (g4, 8, .inl o_h5)), (h6, .inl (g5, 8, .inl o_h6))] t.heap ∧ va_K (dC, dI) vwCl [] t ∧ va_D (va_A [(h0, .inr (8, [.ref h1, .ref h2, .ref h3, .ref h4, .ref h5, .ref h6, .int v0, .int v1, .int v2])), (h1, .inl (g0, 8, .inl f3)), (h2, .inl (g1, 8, .inl f4)), (h3, .inl (g2, 8, .inl f5)), (h4, .inl (g3, 8, .inl f6)), (h5, .inl (g4, 8, .inl f7)), (h6, .inl (g5, 8, .inl f8))] sz) [(h0, .inr (8, [.ref h1, .ref h2, .ref h3, .ref h4, .ref h5, .ref h6, .int v0, .int v1, .int v2])), (h1, .inl (g0, 8, .inl f3)), (h2, .inl (g1, 8, .inl f4)), (h3, .inl (g2, 8, .inl f5)), (h4, .inl (g3, 8, .inl o_h4)), (h5, .inl (g4, 8, .inl o_h5)), (h6, .inl (g5, 8, .inl o_h6))]) (va_A [(h0, .inr (8, [.ref h1, .ref h2, .ref h3, .ref h4, .ref h5, .ref h6, .int v0, .int v1, .int v2])), (h1, .inl (g0, 8, .inl f3)), (h2, .inl (g1, 8, .inl f4)), (h3, .inl (g2, 8, .inl f5)), (h4, .inl (g3, 8, .inl f6)), (h5, .inl (g4, 8, .inl f7)), (h6, .inl (g5, 8, .inl f8))] sz)) 0 0 (va_A [(h0, .inr (8, [.ref h1, .ref h2, .ref h3, .ref h4, .ref h5, .ref h6, .int v0, .int v1, .int v2])), (h1, .inl (g0, 8, .inl f3)), (h2, .inl (g1, 8, .inl f4)), (h3, .inl (g2, 8, .inl f5)), (h4, .inl (g3, 8, .inl f6)), (h5, .inl (g4, 8, .inl f7)), (h6, .inl (g5, 8, .inl f8))] sz) := by
  refine Met.ofW (cc := cX8_fewest) (maxL := 3) (ret := (some .int)) (by decide) rfl ?_
  intro p e s m args below meth c s₁ B hml hv
  obtain ⟨i_v2a, i_v2b⟩ := i_v2
  obtain ⟨rfl, hsz, hP, hK, hD0⟩ := hv
  have hx := B.exec
  have hb := B.bytes
  have hr := B.returns
  have hts := atoms_spec (ws := q_X8_fewest) B.pre
  have hown : s.vm.findClass RX8 = some m.cls := findClass_of_methodNamed B.named
  have hlocks := B.notSynchronized
  subst hsz
  have hD := hD0.self (sz := s.heap.size)
  generalize hAe : va_A [(h0, .inr (8, [.ref h1, .ref h2, .ref h3, .ref h4, .ref h5, .ref h6, .int v0, .int v1, .int v2])), (h1, .inl (g0, 8, .inl f3)), (h2, .inl (g1, 8, .inl f4)), (h3, .inl (g2, 8, .inl f5)), (h4, .inl (g3, 8, .inl f6)), (h5, .inl (g4, 8, .inl f7)), (h6, .inl (g5, 8, .inl f8))] s.heap.size = A at hD ⊢
  have hA : ∀ q : Nat, s.heap.size ≤ q → A q := fun q h => by rw [← hAe]; exact Or.inr h
  have hS : va_S A s.heap s.heap [] := va_S.rf
  generalize hQ : (MQ below _ _ s 0 0 A) = Q
  have hl := lv_entry ([.ref h0, .int v9]) (n := 3) (Nat.le_of_ble_eq_true rfl)
  rw [lg_entry_eq]
  generalize (lg_sl ([.ref h0, .int v9]) ++ List.replicate (3 - (lg_sl ([.ref h0, .int v9])).length) Slot.unset).toArray = ls at hl ⊢
  have hl : lv_has ls 3 [(0, .ref h0), (1, .int v9)] := hl
  obtain ⟨H, hH⟩ : ∃ H : Heap, H = s.heap := ⟨_, rfl⟩
  obtain ⟨locs, hlocs⟩ : ∃ y : List Loc, y = [] := ⟨_, rfl⟩
  have hS : va_S A s.heap H locs := by rw [hH, hlocs]; exact va_S.rf
  have hP : va_P (dC, dI) vwCl [(h0, .inr (8, [.ref h1, .ref h2, .ref h3, .ref h4, .ref h5, .ref h6, .int v0, .int v1, .int v2])), (h1, .inl (g0, 8, .inl f3)), (h2, .inl (g1, 8, .inl f4)), (h3, .inl (g2, 8, .inl f5)), (h4, .inl (g3, 8, .inl f6)), (h5, .inl (g4, 8, .inl f7)), (h6, .inl (g5, 8, .inl f8))] H := by rw [hH]; exact hP
  rw [← hH, ← hlocs]
  refine lv_iconst (v := 0) hx hb dX8_fewest_0 (by decide) ?_
  refine lv_istore_n (lv' := [(2, .int 0), (0, .ref h0), (1, .int v9)]) hx hb dX8_fewest_1 rfl hl (by decide) rfl (fun ls hl => ?_)
  have hL25 : ∀ (n9 : Nat), ∀ (x17 : Int32) (fn18 : Nat → Int32) (fn19 : Nat → Int32) (fn20 : Nat → Int32) (H : Heap) (locs : List Loc) (ls : Array Slot), 0 ≤ x17.toInt → x17.toInt ≤ 9 → (9 - x17.toInt).toNat < n9 → va_P (dC, dI) vwCl [(h0, .inr (8, [.ref h1, .ref h2, .ref h3, .ref h4, .ref h5, .ref h6, .int v0, .int v1, .int v2])), (h1, .inl (g0, 8, .inl f3)), (h2, .inl (g1, 8, .inl f4)), (h3, .inl (g2, 8, .inl f5)), (h4, .inl (g3, 8, .inl fn18)), (h5, .inl (g4, 8, .inl fn19)), (h6, .inl (g5, 8, .inl fn20))] H → va_D A [(h0, .inr (8, [.ref h1, .ref h2, .ref h3, .ref h4, .ref h5, .ref h6, .int v0, .int v1, .int v2])), (h1, .inl (g0, 8, .inl f3)), (h2, .inl (g1, 8, .inl f4)), (h3, .inl (g2, 8, .inl f5)), (h4, .inl (g3, 8, .inl fn18)), (h5, .inl (g4, 8, .inl fn19)), (h6, .inl (g5, 8, .inl fn20))] → va_S A s.heap H locs → lv_has ls 3 [(2, .int x17), (0, .ref h0), (1, .int v9)] → W p l e ({ frames := 9, cells := 0, slots := 0, locals := 216 }) s m ([.ref h0, .int v9] : List Value).toArray below meth c H locs 0 0 Q (F0 m 2 ls []) := by
    intro n9
    induction n9 with
    | zero => intro x17 fn18 fn19 fn20 H locs ls qa_x17 qb_x17 hm9 hP hD hS hl; exact absurd hm9 (Nat.not_lt_zero _)
    | succ n9 ih =>
      intro x17 fn18 fn19 fn20 H locs ls qa_x17 qb_x17 hm9 hP hD hS hl
      refine lv_iload_n hx hb dX8_fewest_2 rfl (lv_at hl 0 rfl) ?_
      refine lv_iload_n hx hb dX8_fewest_3 rfl (lv_at hl 2 rfl) ?_
      refine lv_icmp_gt (tgt := 47) hx hb dX8_fewest_4 (by decide) (fun c26 => ?_) (fun c26 => ?_)
      · skip
        have fc26 : v9.toInt < x17.toInt := Int32.lt_iff_toInt_lt.mp c26
        have r1c26 := Int32.toInt_lt x17
        have r2c26 := Int32.toInt_lt v9
        have r3c26 := Int32.le_toInt x17
        have r4c26 := Int32.le_toInt v9
        refine lv_iconst (v := (-1)) hx hb dX8_fewest_47 (by decide) ?_
        subst hQ
        have hP9 := hP.sub (ws' := [(h0, .inr (8, [.ref h1, .ref h2, .ref h3, .ref h4, .ref h5, .ref h6, .int v0, .int v1, .int v2])), (h1, .inl (g0, 8, .inl f3)), (h2, .inl (g1, 8, .inl f4)), (h3, .inl (g2, 8, .inl f5)), (h4, .inl (g3, 8, .inl fn18)), (h5, .inl (g4, 8, .inl fn19)), (h6, .inl (g5, 8, .inl fn20))]) [0, 1, 2, 3, 4, 5, 6] rfl
        have hD9 := hD.sub (ws' := [(h0, .inr (8, [.ref h1, .ref h2, .ref h3, .ref h4, .ref h5, .ref h6, .int v0, .int v1, .int v2])), (h1, .inl (g0, 8, .inl f3)), (h2, .inl (g1, 8, .inl f4)), (h3, .inl (g2, 8, .inl f5)), (h4, .inl (g3, 8, .inl fn18)), (h5, .inl (g4, 8, .inl fn19)), (h6, .inl (g5, 8, .inl fn20))]) [0, 1, 2, 3, 4, 5, 6] (by decide) rfl
        have hK9 := hK.sub (tys' := []) [] rfl
        exact W.iret (v := (-1)) hx hb hr (fun t ht hW => ⟨⟨(-1), (), rfl, ⟨by first | omega | decide, by first | omega | decide⟩, fn18, fn19, fn20, by rw [ht]; exact hP9, va_K.moved hW.alike hK9, hD9⟩, hS.F ht⟩) hS.2.2 dX8_fewest_48
      · skip
        have fc26 : ¬ (v9.toInt < x17.toInt) := fun h9 => c26 (Int32.lt_iff_toInt_lt.mpr h9)
        have r1c26 := Int32.toInt_lt x17
        have r2c26 := Int32.toInt_lt v9
        have r3c26 := Int32.le_toInt x17
        have r4c26 := Int32.le_toInt v9
        refine lv_iload_n hx hb dX8_fewest_7 rfl (lv_at hl 0 rfl) ?_
        refine lv_bipush (v := 8) hx hb dX8_fewest_8 (by decide) ?_
        refine lv_icmp_gt (tgt := 47) hx hb dX8_fewest_10 (by decide) (fun c27 => ?_) (fun c27 => ?_)
        · skip
          have fc27 : 8 < x17.toInt := Int32.lt_iff_toInt_lt.mp c27
          refine lv_iconst (v := (-1)) hx hb dX8_fewest_47 (by decide) ?_
          subst hQ
          have hP9 := hP.sub (ws' := [(h0, .inr (8, [.ref h1, .ref h2, .ref h3, .ref h4, .ref h5, .ref h6, .int v0, .int v1, .int v2])), (h1, .inl (g0, 8, .inl f3)), (h2, .inl (g1, 8, .inl f4)), (h3, .inl (g2, 8, .inl f5)), (h4, .inl (g3, 8, .inl fn18)), (h5, .inl (g4, 8, .inl fn19)), (h6, .inl (g5, 8, .inl fn20))]) [0, 1, 2, 3, 4, 5, 6] rfl
          have hD9 := hD.sub (ws' := [(h0, .inr (8, [.ref h1, .ref h2, .ref h3, .ref h4, .ref h5, .ref h6, .int v0, .int v1, .int v2])), (h1, .inl (g0, 8, .inl f3)), (h2, .inl (g1, 8, .inl f4)), (h3, .inl (g2, 8, .inl f5)), (h4, .inl (g3, 8, .inl fn18)), (h5, .inl (g4, 8, .inl fn19)), (h6, .inl (g5, 8, .inl fn20))]) [0, 1, 2, 3, 4, 5, 6] (by decide) rfl
          have hK9 := hK.sub (tys' := []) [] rfl
          exact W.iret (v := (-1)) hx hb hr (fun t ht hW => ⟨⟨(-1), (), rfl, ⟨by first | omega | decide, by first | omega | decide⟩, fn18, fn19, fn20, by rw [ht]; exact hP9, va_K.moved hW.alike hK9, hD9⟩, hS.F ht⟩) hS.2.2 dX8_fewest_48
        · skip
          have fc27 : ¬ (8 < x17.toInt) := fun h9 => c27 (Int32.lt_iff_toInt_lt.mpr h9)
          refine lv_aload_n hx hb dX8_fewest_13 rfl (lv_at hl 1 rfl) ?_
          refine va_get (D := (dC, dI)) (ci := 8) (v := .ref h5) (C := RX8) (T := TX8) (N := 9) hx hb hts (fun _ h => List.mem_cons_of_mem _ (List.mem_append_right _ h)) hown hK hP 0 rfl rfl 4 (by decide) (hts (.fieldLink RX8 24 "LeftArguments$Rows" "loads" "[I") (List.mem_cons_of_mem _ (List.mem_append_left _ (List.mem_of_getElem? (i := 0) rfl)))) (fun _ h9 => h9) rfl dX8_fewest_14 ?_
          refine lv_iconst (v := 0) hx hb dX8_fewest_17 (by decide) ?_
          have hPc := hP.sub (ws' := [(h5, .inl (g4, 8, .inl fn19))]) [5] rfl
          have hDc := hD.sub (ws' := [(h5, .inl (g4, 8, .inl fn19))]) [5] (by decide) rfl
          have hKc := hK.sub (tys' := [(g4, .int)]) [4] rfl
          have hFc := va_free (wc := [(h5, .inl (g4, 8, .inl fn19))]) hD hS hA [5] rfl
          refine va_callv (va_runS (As := [.ref h5, .int 0]) (rest := []) ⟨hx, hb, hml, hown, hts⟩ (k_J7_fill_53178_1 l dC dI h5 g4 fn19 0  H.size) (va_cwS 2 hts g_X8_fewest_0 rfl rfl rfl (by decide +kernel) ⟨Nat.le_of_ble_eq_true rfl, Nat.le_of_ble_eq_true rfl⟩) ⟨fun a U g mk q => by obtain ⟨q0, q1, qP, qK, qD⟩ := q; exact ⟨q0, q1, qP, va_K.moved (u := U) (U := U.calling g mk a) (Vm.Alike.refl U.vm) qK, qD⟩, fun U hU hW => ⟨rfl, by rw [hU], by rw [hU]; exact hPc, va_K.moved hW.alike hKc, hDc.weaken (fun _ _ _ _ => trivial)⟩⟩ rfl rfl hl.1 rfl (lv_room (Nat.le_of_ble_eq_true rfl)) dX8_fewest_18 ⟨Nat.le_of_ble_eq_true rfl, Nat.le_of_ble_eq_true rfl⟩) hS (fun q _ h => hFc q h) hFc (fun u t H1 locs ht hvm hwra28 hB hz1 hk1 hS => ?_)
          obtain ⟨fn29, hP1, hK1, hD1⟩ := hB
          rw [ht] at hP1
          obtain ⟨hP, hD⟩ := va_join (wr := [(h0, .inr (8, [.ref h1, .ref h2, .ref h3, .ref h4, .ref h5, .ref h6, .int v0, .int v1, .int v2])), (h1, .inl (g0, 8, .inl f3)), (h2, .inl (g1, 8, .inl f4)), (h3, .inl (g2, 8, .inl f5)), (h4, .inl (g3, 8, .inl fn18)), (h6, .inl (g5, 8, .inl fn20))]) (w1 := [(h5, .inl (g4, 8, .inl fn29))]) hP hD [5] [0, 1, 2, 3, 4, 6] rfl rfl (by decide) (by decide) hk1 hFc hP1 hD1
          generalize H1 = H at hP hS ⊢
          have hP := hP.sub (ws' := [(h0, .inr (8, [.ref h1, .ref h2, .ref h3, .ref h4, .ref h5, .ref h6, .int v0, .int v1, .int v2])), (h1, .inl (g0, 8, .inl f3)), (h2, .inl (g1, 8, .inl f4)), (h3, .inl (g2, 8, .inl f5)), (h4, .inl (g3, 8, .inl fn18)), (h5, .inl (g4, 8, .inl fn29)), (h6, .inl (g5, 8, .inl fn20))]) [0, 1, 2, 3, 4, 6, 5] rfl
          have hD := hD.sub (ws' := [(h0, .inr (8, [.ref h1, .ref h2, .ref h3, .ref h4, .ref h5, .ref h6, .int v0, .int v1, .int v2])), (h1, .inl (g0, 8, .inl f3)), (h2, .inl (g1, 8, .inl f4)), (h3, .inl (g2, 8, .inl f5)), (h4, .inl (g3, 8, .inl fn18)), (h5, .inl (g4, 8, .inl fn29)), (h6, .inl (g5, 8, .inl fn20))]) [0, 1, 2, 3, 4, 6, 5] (by decide) rfl
          have hP : va_P (dC, dI) vwCl [(h0, .inr (8, [.ref h1, .ref h2, .ref h3, .ref h4, .ref h5, .ref h6, .int v0, .int v1, .int v2])), (h1, .inl (g0, 8, .inl f3)), (h2, .inl (g1, 8, .inl f4)), (h3, .inl (g2, 8, .inl f5)), (h4, .inl (g3, 8, .inl fn18)), (h5, .inl (g4, 8, .inl fn29)), (h6, .inl (g5, 8, .inl fn20))] H := hP
          have hD : va_D A [(h0, .inr (8, [.ref h1, .ref h2, .ref h3, .ref h4, .ref h5, .ref h6, .int v0, .int v1, .int v2])), (h1, .inl (g0, 8, .inl f3)), (h2, .inl (g1, 8, .inl f4)), (h3, .inl (g2, 8, .inl f5)), (h4, .inl (g3, 8, .inl fn18)), (h5, .inl (g4, 8, .inl fn29)), (h6, .inl (g5, 8, .inl fn20))] := hD
          refine lv_aload_n hx hb dX8_fewest_21 rfl (lv_at hl 1 rfl) ?_
          refine va_get (D := (dC, dI)) (ci := 8) (v := .ref h6) (C := RX8) (T := TX8) (N := 9) hx hb hts (fun _ h => List.mem_cons_of_mem _ (List.mem_append_right _ h)) hown hK hP 0 rfl rfl 5 (by decide) (hts (.fieldLink RX8 27 "LeftArguments$Rows" "standing" "[I") (List.mem_cons_of_mem _ (List.mem_append_left _ (List.mem_of_getElem? (i := 5) rfl)))) (fun _ h9 => h9) rfl dX8_fewest_22 ?_
          refine lv_iconst (v := 0) hx hb dX8_fewest_25 (by decide) ?_
          have hPc := hP.sub (ws' := [(h6, .inl (g5, 8, .inl fn20))]) [6] rfl
          have hDc := hD.sub (ws' := [(h6, .inl (g5, 8, .inl fn20))]) [6] (by decide) rfl
          have hKc := hK.sub (tys' := [(g5, .int)]) [5] rfl
          have hFc := va_free (wc := [(h6, .inl (g5, 8, .inl fn20))]) hD hS hA [6] rfl
          refine va_callv (va_runS (As := [.ref h6, .int 0]) (rest := []) ⟨hx, hb, hml, hown, hts⟩ (k_J7_fill_53178_1 l dC dI h6 g5 fn20 0  H.size) (va_cwS 2 hts g_X8_fewest_1 rfl rfl rfl (by decide +kernel) ⟨Nat.le_of_ble_eq_true rfl, Nat.le_of_ble_eq_true rfl⟩) ⟨fun a U g mk q => by obtain ⟨q0, q1, qP, qK, qD⟩ := q; exact ⟨q0, q1, qP, va_K.moved (u := U) (U := U.calling g mk a) (Vm.Alike.refl U.vm) qK, qD⟩, fun U hU hW => ⟨rfl, by rw [hU], by rw [hU]; exact hPc, va_K.moved hW.alike hKc, hDc.weaken (fun _ _ _ _ => trivial)⟩⟩ rfl rfl hl.1 rfl (lv_room (Nat.le_of_ble_eq_true rfl)) dX8_fewest_26 ⟨Nat.le_of_ble_eq_true rfl, Nat.le_of_ble_eq_true rfl⟩) hS (fun q _ h => hFc q h) hFc (fun u t H1 locs ht hvm hwra30 hB hz1 hk1 hS => ?_)
          obtain ⟨fn31, hP1, hK1, hD1⟩ := hB
          rw [ht] at hP1
          obtain ⟨hP, hD⟩ := va_join (wr := [(h0, .inr (8, [.ref h1, .ref h2, .ref h3, .ref h4, .ref h5, .ref h6, .int v0, .int v1, .int v2])), (h1, .inl (g0, 8, .inl f3)), (h2, .inl (g1, 8, .inl f4)), (h3, .inl (g2, 8, .inl f5)), (h4, .inl (g3, 8, .inl fn18)), (h5, .inl (g4, 8, .inl fn29))]) (w1 := [(h6, .inl (g5, 8, .inl fn31))]) hP hD [6] [0, 1, 2, 3, 4, 5] rfl rfl (by decide) (by decide) hk1 hFc hP1 hD1
          generalize H1 = H at hP hS ⊢
          have hP : va_P (dC, dI) vwCl [(h0, .inr (8, [.ref h1, .ref h2, .ref h3, .ref h4, .ref h5, .ref h6, .int v0, .int v1, .int v2])), (h1, .inl (g0, 8, .inl f3)), (h2, .inl (g1, 8, .inl f4)), (h3, .inl (g2, 8, .inl f5)), (h4, .inl (g3, 8, .inl fn18)), (h5, .inl (g4, 8, .inl fn29)), (h6, .inl (g5, 8, .inl fn31))] H := hP
          have hD : va_D A [(h0, .inr (8, [.ref h1, .ref h2, .ref h3, .ref h4, .ref h5, .ref h6, .int v0, .int v1, .int v2])), (h1, .inl (g0, 8, .inl f3)), (h2, .inl (g1, 8, .inl f4)), (h3, .inl (g2, 8, .inl f5)), (h4, .inl (g3, 8, .inl fn18)), (h5, .inl (g4, 8, .inl fn29)), (h6, .inl (g5, 8, .inl fn31))] := hD
          refine lv_aload_n hx hb dX8_fewest_29 rfl (lv_at hl 1 rfl) ?_
          refine lv_iconst (v := 0) hx hb dX8_fewest_30 (by decide) ?_
          refine lv_iconst (v := 0) hx hb dX8_fewest_31 (by decide) ?_
          refine lv_iload_n hx hb dX8_fewest_32 rfl (lv_at hl 0 rfl) ?_
          have hPc := hP.sub (ws' := [(h0, .inr (8, [.ref h1, .ref h2, .ref h3, .ref h4, .ref h5, .ref h6, .int v0, .int v1, .int v2])), (h1, .inl (g0, 8, .inl f3)), (h2, .inl (g1, 8, .inl f4)), (h3, .inl (g2, 8, .inl f5)), (h4, .inl (g3, 8, .inl fn18)), (h5, .inl (g4, 8, .inl fn29)), (h6, .inl (g5, 8, .inl fn31))]) [0, 1, 2, 3, 4, 5, 6] rfl
          have hDc := hD.sub (ws' := [(h0, .inr (8, [.ref h1, .ref h2, .ref h3, .ref h4, .ref h5, .ref h6, .int v0, .int v1, .int v2])), (h1, .inl (g0, 8, .inl f3)), (h2, .inl (g1, 8, .inl f4)), (h3, .inl (g2, 8, .inl f5)), (h4, .inl (g3, 8, .inl fn18)), (h5, .inl (g4, 8, .inl fn29)), (h6, .inl (g5, 8, .inl fn31))]) [0, 1, 2, 3, 4, 5, 6] (by decide) rfl
          have hKc := hK.sub (tys' := [(g0, .int), (g1, .int), (g2, .int), (g3, .int), (g4, .int), (g5, .int)]) [0, 1, 2, 3, 4, 5] rfl
          have hFc := va_free (wc := [(h0, .inr (8, [.ref h1, .ref h2, .ref h3, .ref h4, .ref h5, .ref h6, .int v0, .int v1, .int v2])), (h1, .inl (g0, 8, .inl f3)), (h2, .inl (g1, 8, .inl f4)), (h3, .inl (g2, 8, .inl f5)), (h4, .inl (g3, 8, .inl fn18)), (h5, .inl (g4, 8, .inl fn29)), (h6, .inl (g5, 8, .inl fn31))]) hD hS hA [0, 1, 2, 3, 4, 5, 6] rfl
          refine va_calli (va_runV (As := [.int 0, .int 0, .int x17]) (rest := []) ⟨hx, hb, hml, hown, hts⟩ (k_X8_place_8 l dC dI h0 h1 h2 h3 h4 h5 h6 v0 v1 v2 g0 f3 g1 f4 g2 f5 g3 fn18 g4 fn29 g5 fn31 0 x17 ⟨by first | omega | decide, by first | omega | decide⟩ H.size) (cwV 3 hts g_X8_fewest_2 rfl rfl rfl (by decide +kernel) ⟨Nat.le_of_ble_eq_true rfl, Nat.le_of_ble_eq_true rfl⟩) ⟨fun a U g mk q => by obtain ⟨q0, q1, qP, qK, qD⟩ := q; exact ⟨q0, q1, qP, va_K.moved (u := U) (U := U.calling g mk a) (Vm.Alike.refl U.vm) qK, qD⟩, va_recv hKc hPc (ci := 8) (q0 := 0) rfl rfl, fun U hU hW => ⟨rfl, by rw [hU], by rw [hU]; exact hPc, va_K.moved hW.alike hKc, hDc.weaken (fun _ _ _ _ => trivial)⟩⟩ rfl rfl hl.1 rfl (lv_room (Nat.le_of_ble_eq_true rfl)) dX8_fewest_33 ⟨Nat.le_of_ble_eq_true rfl, Nat.le_of_ble_eq_true rfl⟩) hS (fun q _ h => hFc q h) hFc (fun ra32 u t H1 locs ht hvm hwra32 hB hz1 hk1 hS => ?_)
          obtain ⟨fn33, fn34, fn35, hP1, hK1, hD1⟩ := hB
          rw [ht] at hP1
          obtain ⟨hP, hD⟩ := va_join (wr := []) (w1 := [(h0, .inr (8, [.ref h1, .ref h2, .ref h3, .ref h4, .ref h5, .ref h6, .int v0, .int v1, .int v2])), (h1, .inl (g0, 8, .inl f3)), (h2, .inl (g1, 8, .inl f4)), (h3, .inl (g2, 8, .inl f5)), (h4, .inl (g3, 8, .inl fn33)), (h5, .inl (g4, 8, .inl fn34)), (h6, .inl (g5, 8, .inl fn35))]) hP hD [0, 1, 2, 3, 4, 5, 6] [] rfl rfl (by decide) (by decide) hk1 hFc hP1 hD1
          generalize H1 = H at hP hS ⊢
          have hP : va_P (dC, dI) vwCl [(h0, .inr (8, [.ref h1, .ref h2, .ref h3, .ref h4, .ref h5, .ref h6, .int v0, .int v1, .int v2])), (h1, .inl (g0, 8, .inl f3)), (h2, .inl (g1, 8, .inl f4)), (h3, .inl (g2, 8, .inl f5)), (h4, .inl (g3, 8, .inl fn33)), (h5, .inl (g4, 8, .inl fn34)), (h6, .inl (g5, 8, .inl fn35))] H := hP
          have hD : va_D A [(h0, .inr (8, [.ref h1, .ref h2, .ref h3, .ref h4, .ref h5, .ref h6, .int v0, .int v1, .int v2])), (h1, .inl (g0, 8, .inl f3)), (h2, .inl (g1, 8, .inl f4)), (h3, .inl (g2, 8, .inl f5)), (h4, .inl (g3, 8, .inl fn33)), (h5, .inl (g4, 8, .inl fn34)), (h6, .inl (g5, 8, .inl fn35))] := hD
          obtain ⟨wa_ra32, wb_ra32⟩ := hwra32
          have wa_ra32 : 0 ≤ ra32.toInt := wa_ra32
          have wb_ra32 : ra32.toInt ≤ 1 := wb_ra32
          refine lv_if_eq (tgt := 41) hx hb dX8_fewest_36 (by decide) (fun c36 => ?_) (fun c36 => ?_)
          · skip
            have fc36 : ra32.toInt = 0 := congrArg Int32.toInt c36
            obtain ⟨t37, et37⟩ : ∃ y : Int32, y = x17 + 1 := ⟨_, rfl⟩
            have gt37 : t37.toInt = x17.toInt + (1) := pv_add (a := x17.toInt) (b := (1)) et37 rfl (by decide) (by omega) (by omega)
            refine lv_iinc (v := t37) (lv' := [(2, .int t37), (0, .ref h0), (1, .int v9)]) hx hb dX8_fewest_41 hl (k := 0) rfl (by rw [et37]; rfl) (by decide) rfl (fun ls hl => ?_)
            refine lv_goto (tgt := 2) hx hb dX8_fewest_44 (by decide) ?_
            exact ih t37 fn33 fn34 fn35 H locs ls (by first | omega | decide) (by first | omega | decide) (by first | omega | (simp only [Int.toNat] at *; omega)) hP hD hS (lv_sub hl [0, 1, 2] rfl)
          · skip
            have fc36 : ¬ (ra32.toInt = 0) := fun h9 => c36 (Int32.toInt_inj.mp h9)
            refine lv_iload_n hx hb dX8_fewest_39 rfl (lv_at hl 0 rfl) ?_
            subst hQ
            have hP9 := hP.sub (ws' := [(h0, .inr (8, [.ref h1, .ref h2, .ref h3, .ref h4, .ref h5, .ref h6, .int v0, .int v1, .int v2])), (h1, .inl (g0, 8, .inl f3)), (h2, .inl (g1, 8, .inl f4)), (h3, .inl (g2, 8, .inl f5)), (h4, .inl (g3, 8, .inl fn33)), (h5, .inl (g4, 8, .inl fn34)), (h6, .inl (g5, 8, .inl fn35))]) [0, 1, 2, 3, 4, 5, 6] rfl
            have hD9 := hD.sub (ws' := [(h0, .inr (8, [.ref h1, .ref h2, .ref h3, .ref h4, .ref h5, .ref h6, .int v0, .int v1, .int v2])), (h1, .inl (g0, 8, .inl f3)), (h2, .inl (g1, 8, .inl f4)), (h3, .inl (g2, 8, .inl f5)), (h4, .inl (g3, 8, .inl fn33)), (h5, .inl (g4, 8, .inl fn34)), (h6, .inl (g5, 8, .inl fn35))]) [0, 1, 2, 3, 4, 5, 6] (by decide) rfl
            have hK9 := hK.sub (tys' := []) [] rfl
            exact W.iret (v := x17) hx hb hr (fun t ht hW => ⟨⟨x17, (), rfl, ⟨by first | omega | decide, by first | omega | decide⟩, fn33, fn34, fn35, by rw [ht]; exact hP9, va_K.moved hW.alike hK9, hD9⟩, hS.F ht⟩) hS.2.2 dX8_fewest_40
  exact hL25 _ 0 f6 f7 f8 H locs ls (by first | omega | decide) (by first | omega | decide) (Nat.lt_succ_self _) hP hD hS (lv_sub hl [0, 1, 2] rfl)
def q_X8_fewestByPeace : List Cond := .code yX8_fewestByPeace cX8_fewestByPeace 1 (some .int) :: (([.fieldLink RX8 37 "LeftArguments$Rows" "byRoom" "Z", .code yX8_fewest cX8_fewest 3 (some .int), .fieldLink RX8 24 "LeftArguments$Rows" "loads" "[I", .code yJ7_fill_53178 cJ7_fill_53178 4 none, .initialized RJ7, .static yJ7_fill_53178, .methodLink RX8 58 yJ7_fill_53178, .fieldLink RX8 27 "LeftArguments$Rows" "standing" "[I", .code yX8_place cX8_place 5 (some .boolean), .fieldLink RX8 30 "LeftArguments$Rows" "bags" "I", .code yX8_standsWell cX8_standsWell 3 (some .boolean), .fieldLink RX8 15 "LeftArguments$Rows" "circles" "[I", .fieldLink RX8 9 "LeftArguments$Rows" "sizes" "[I", .fieldLink RX8 34 "LeftArguments$Rows" "wide" "I", .initialized RX8, .instanceMethod yX8_standsWell, .selects RX8 yX8_standsWell yX8_standsWell, .methodLink RX8 68 yX8_standsWell, .fieldLink RX8 21 "LeftArguments$Rows" "chosen" "[I", .fieldLink RX8 18 "LeftArguments$Rows" "places" "[I", .methodLink RX8 72 Lib.Math.max.name, .static Lib.Math.max.name, .initialized "java/lang/Math", .code Lib.Math.max.name Lib.Math.max.code 2 (some .int), .instanceMethod yX8_place, .selects RX8 yX8_place yX8_place, .methodLink RX8 64 yX8_place, .instanceMethod yX8_fewest, .selects RX8 yX8_fewest yX8_fewest, .methodLink RX8 55 yX8_fewest] : List Cond) ++ wsX80)
set_option maxRecDepth 20000 in
theorem g_X8_fewestByPeace_0 : GoodIn q_X8_fewestByPeace (wsV RX8 55 RX8 yX8_fewest q_X8_fewest) := goodIn_app (goodIn_r _ [30, 28, 29, 15] (by decide +kernel) (by decide +kernel)) (goodIn_ca (goodIn_r (.code yX8_fewest cX8_fewest 3 (some .int) :: [.fieldLink RX8 24 "LeftArguments$Rows" "loads" "[I", .code yJ7_fill_53178 cJ7_fill_53178 4 none, .initialized RJ7, .static yJ7_fill_53178, .methodLink RX8 58 yJ7_fill_53178, .fieldLink RX8 27 "LeftArguments$Rows" "standing" "[I", .code yX8_place cX8_place 5 (some .boolean), .fieldLink RX8 30 "LeftArguments$Rows" "bags" "I", .code yX8_standsWell cX8_standsWell 3 (some .boolean), .fieldLink RX8 37 "LeftArguments$Rows" "byRoom" "Z", .fieldLink RX8 15 "LeftArguments$Rows" "circles" "[I", .fieldLink RX8 9 "LeftArguments$Rows" "sizes" "[I", .fieldLink RX8 34 "LeftArguments$Rows" "wide" "I", .initialized RX8, .instanceMethod yX8_standsWell, .selects RX8 yX8_standsWell yX8_standsWell, .methodLink RX8 68 yX8_standsWell, .fieldLink RX8 21 "LeftArguments$Rows" "chosen" "[I", .fieldLink RX8 18 "LeftArguments$Rows" "places" "[I", .methodLink RX8 72 Lib.Math.max.name, .static Lib.Math.max.name, .initialized "java/lang/Math", .code Lib.Math.max.name Lib.Math.max.code 2 (some .int), .instanceMethod yX8_place, .selects RX8 yX8_place yX8_place, .methodLink RX8 64 yX8_place]) [2, 3, 4, 5, 6, 7, 8, 9, 10, 11, 1, 12, 13, 14, 15, 16, 17, 18, 19, 20, 21, 22, 23, 24, 25, 26, 27] (by decide +kernel) (by decide +kernel)) (goodIn_sub (fun _ h => List.mem_cons_of_mem _ (List.mem_append_right _ h)) gwX8))
set_option maxHeartbeats 4000000 in
set_option maxRecDepth 100000 in
theorem k_X8_fewestByPeace (l : Launch) (dC : Nat → ClassId) (dI : Nat → Nat → Nat) (h0 : Nat) (h1 : Nat) (h2 : Nat) (h3 : Nat) (h4 : Nat) (h5 : Nat) (h6 : Nat) (v0 : Int32) (v1 : Int32) (v2 : Int32) (g0 : ClassId) (f3 : Nat → Int32) (g1 : ClassId) (f4 : Nat → Int32) (g2 : ClassId) (f5 : Nat → Int32) (g3 : ClassId) (f6 : Nat → Int32) (g4 : ClassId) (f7 : Nat → Int32) (g5 : ClassId) (f8 : Nat → Int32) (i_v2 : 0 ≤ v2.toInt ∧ v2.toInt ≤ 1) (sz : Nat) : Met l yX8_fewestByPeace q_X8_fewestByPeace ({ frames := 10, cells := 0, slots := 0, locals := 238 }) (va_Pc [.ref h0] (fun U => U.heap.size = sz ∧ va_P (dC, dI) vwCl [(h0, .inr (8, [.ref h1, .ref h2, .ref h3, .ref h4, .ref h5, .ref h6, .int v0, .int v1, .int v2])), (h1, .inl (g0, 8, .inl f3)), (h2, .inl (g1, 8, .inl f4)), (h3, .inl (g2, 8, .inl f5)), (h4, .inl (g3, 8, .inl f6)), (h5, .inl (g4, 8, .inl f7)), (h6, .inl (g5, 8, .inl f8))] U.heap ∧ va_K (dC, dI) vwCl [(g0, .int), (g1, .int), (g2, .int), (g3, .int), (g4, .int), (g5, .int)] U ∧ va_D (fun _ => True) [(h0, .inr (8, [.ref h1, .ref h2, .ref h3, .ref h4, .ref h5, .ref h6, .int v0, .int v1, .int v2])), (h1, .inl (g0, 8, .inl f3)), (h2, .inl (g1, 8, .inl f4)), (h3, .inl (g2, 8, .inl f5)), (h4, .inl (g3, 8, .inl f6)), (h5, .inl (g4, 8, .inl f7)), (h6, .inl (g5, 8, .inl f8))])) (va_Qi (fun (r : Int32) (_ : Unit) => -1 ≤ r.toInt ∧ r.toInt ≤ 8) (fun (_ : Unit) (t : State) => ∃ (o_h0_8 : Int32) (o_h4 : Nat → Int32) (o_h5 : Nat → Int32) (o_h6 : Nat → Int32), 0 ≤ o_h0_8.toInt ∧ o_h0_8.toInt ≤ 1 ∧ va_P (dC, dI) vwCl [(h0, .inr (8, [.ref h1, .ref h2, .ref h3, .ref h4, .ref h5, .ref h6, .int v0, .int v1, .int o_h0_8])), (h1, .inl (g0, 8, .inl f3)), (h2, .inl (g1, 8, .inl f4)), (h3, .inl (g2, 8, .inl f5)), (h4, .inl (g3, 8, .inl o_h4)), (h5, .inl (g4, 8, .inl o_h5)), (h6, .inl (g5, 8, .inl o_h6))] t.heap ∧ va_K (dC, dI) vwCl [] t ∧ va_D (va_A [(h0, .inr (8, [.ref h1, .ref h2, .ref h3, .ref h4, .ref h5, .ref h6, .int v0, .int v1, .int v2])), (h1, .inl (g0, 8, .inl f3)), (h2, .inl (g1, 8, .inl f4)), (h3, .inl (g2, 8, .inl f5)), (h4, .inl (g3, 8, .inl f6)), (h5, .inl (g4, 8, .inl f7)), (h6, .inl (g5, 8, .inl f8))] sz) [(h0, .inr (8, [.ref h1, .ref h2, .ref h3, .ref h4, .ref h5, .ref h6, .int v0, .int v1, .int o_h0_8])), (h1, .inl (g0, 8, .inl f3)), (h2, .inl (g1, 8, .inl f4)), (h3, .inl (g2, 8, .inl f5)), (h4, .inl (g3, 8, .inl o_h4)), (h5, .inl (g4, 8, .inl o_h5)), (h6, .inl (g5, 8, .inl o_h6))]) (va_A [(h0, .inr (8, [.ref h1, .ref h2, .ref h3, .ref h4, .ref h5, .ref h6, .int v0, .int v1, .int v2])), (h1, .inl (g0, 8, .inl f3)), (h2, .inl (g1, 8, .inl f4)), (h3, .inl (g2, 8, .inl f5)), (h4, .inl (g3, 8, .inl f6)), (h5, .inl (g4, 8, .inl f7)), (h6, .inl (g5, 8, .inl f8))] sz)) 0 0 (va_A [(h0, .inr (8, [.ref h1, .ref h2, .ref h3, .ref h4, .ref h5, .ref h6, .int v0, .int v1, .int v2])), (h1, .inl (g0, 8, .inl f3)), (h2, .inl (g1, 8, .inl f4)), (h3, .inl (g2, 8, .inl f5)), (h4, .inl (g3, 8, .inl f6)), (h5, .inl (g4, 8, .inl f7)), (h6, .inl (g5, 8, .inl f8))] sz) := by
  refine Met.ofW (cc := cX8_fewestByPeace) (maxL := 1) (ret := (some .int)) (by decide) rfl ?_
  intro p e s m args below meth c s₁ B hml hv
  obtain ⟨i_v2a, i_v2b⟩ := i_v2
  obtain ⟨rfl, hsz, hP, hK, hD0⟩ := hv
  have hx := B.exec
  have hb := B.bytes
  have hr := B.returns
  have hts := atoms_spec (ws := q_X8_fewestByPeace) B.pre
  have hown : s.vm.findClass RX8 = some m.cls := findClass_of_methodNamed B.named
  have hlocks := B.notSynchronized
  subst hsz
  have hD := hD0.self (sz := s.heap.size)
  generalize hAe : va_A [(h0, .inr (8, [.ref h1, .ref h2, .ref h3, .ref h4, .ref h5, .ref h6, .int v0, .int v1, .int v2])), (h1, .inl (g0, 8, .inl f3)), (h2, .inl (g1, 8, .inl f4)), (h3, .inl (g2, 8, .inl f5)), (h4, .inl (g3, 8, .inl f6)), (h5, .inl (g4, 8, .inl f7)), (h6, .inl (g5, 8, .inl f8))] s.heap.size = A at hD ⊢
  have hA : ∀ q : Nat, s.heap.size ≤ q → A q := fun q h => by rw [← hAe]; exact Or.inr h
  have hS : va_S A s.heap s.heap [] := va_S.rf
  generalize hQ : (MQ below _ _ s 0 0 A) = Q
  have hl := lv_entry ([.ref h0]) (n := 1) (Nat.le_of_ble_eq_true rfl)
  rw [lg_entry_eq]
  generalize (lg_sl ([.ref h0]) ++ List.replicate (1 - (lg_sl ([.ref h0])).length) Slot.unset).toArray = ls at hl ⊢
  have hl : lv_has ls 1 [(0, .ref h0)] := hl
  obtain ⟨H, hH⟩ : ∃ H : Heap, H = s.heap := ⟨_, rfl⟩
  obtain ⟨locs, hlocs⟩ : ∃ y : List Loc, y = [] := ⟨_, rfl⟩
  have hS : va_S A s.heap H locs := by rw [hH, hlocs]; exact va_S.rf
  have hP : va_P (dC, dI) vwCl [(h0, .inr (8, [.ref h1, .ref h2, .ref h3, .ref h4, .ref h5, .ref h6, .int v0, .int v1, .int v2])), (h1, .inl (g0, 8, .inl f3)), (h2, .inl (g1, 8, .inl f4)), (h3, .inl (g2, 8, .inl f5)), (h4, .inl (g3, 8, .inl f6)), (h5, .inl (g4, 8, .inl f7)), (h6, .inl (g5, 8, .inl f8))] H := by rw [hH]; exact hP
  rw [← hH, ← hlocs]
  refine lv_aload_n hx hb dX8_fewestByPeace_0 rfl (lv_at hl 0 rfl) ?_
  refine lv_iconst (v := 0) hx hb dX8_fewestByPeace_1 (by decide) ?_
  refine va_put (D := (dC, dI)) (ci := 8) (v := .int 0) (ty := .boolean) (C := RX8) (T := TX8) (N := 9) hx hb hts (fun _ h => List.mem_cons_of_mem _ (List.mem_append_right _ h)) tyX8 tyX8_ok nmX8 hown hK hP hD hS 0 rfl rfl 8 (by decide) (hts (.fieldLink RX8 37 "LeftArguments$Rows" "byRoom" "Z") (List.mem_cons_of_mem _ (List.mem_append_left _ (List.mem_of_getElem? (i := 0) rfl)))) (fun _ h9 => h9) rfl (by decide +kernel) rfl rfl (Nat.le_of_ble_eq_true rfl) dX8_fewestByPeace_2 (fun H locs hP hD hS => ?_)
  have hP : va_P (dC, dI) vwCl [(h0, .inr (8, [.ref h1, .ref h2, .ref h3, .ref h4, .ref h5, .ref h6, .int v0, .int v1, .int 0])), (h1, .inl (g0, 8, .inl f3)), (h2, .inl (g1, 8, .inl f4)), (h3, .inl (g2, 8, .inl f5)), (h4, .inl (g3, 8, .inl f6)), (h5, .inl (g4, 8, .inl f7)), (h6, .inl (g5, 8, .inl f8))] H := hP
  have hD : va_D A [(h0, .inr (8, [.ref h1, .ref h2, .ref h3, .ref h4, .ref h5, .ref h6, .int v0, .int v1, .int 0])), (h1, .inl (g0, 8, .inl f3)), (h2, .inl (g1, 8, .inl f4)), (h3, .inl (g2, 8, .inl f5)), (h4, .inl (g3, 8, .inl f6)), (h5, .inl (g4, 8, .inl f7)), (h6, .inl (g5, 8, .inl f8))] := hD
  refine lv_aload_n hx hb dX8_fewestByPeace_5 rfl (lv_at hl 0 rfl) ?_
  refine lv_bipush (v := 8) hx hb dX8_fewestByPeace_6 (by decide) ?_
  have hPc := hP.sub (ws' := [(h0, .inr (8, [.ref h1, .ref h2, .ref h3, .ref h4, .ref h5, .ref h6, .int v0, .int v1, .int 0])), (h1, .inl (g0, 8, .inl f3)), (h2, .inl (g1, 8, .inl f4)), (h3, .inl (g2, 8, .inl f5)), (h4, .inl (g3, 8, .inl f6)), (h5, .inl (g4, 8, .inl f7)), (h6, .inl (g5, 8, .inl f8))]) [0, 1, 2, 3, 4, 5, 6] rfl
  have hDc := hD.sub (ws' := [(h0, .inr (8, [.ref h1, .ref h2, .ref h3, .ref h4, .ref h5, .ref h6, .int v0, .int v1, .int 0])), (h1, .inl (g0, 8, .inl f3)), (h2, .inl (g1, 8, .inl f4)), (h3, .inl (g2, 8, .inl f5)), (h4, .inl (g3, 8, .inl f6)), (h5, .inl (g4, 8, .inl f7)), (h6, .inl (g5, 8, .inl f8))]) [0, 1, 2, 3, 4, 5, 6] (by decide) rfl
  have hKc := hK.sub (tys' := [(g0, .int), (g1, .int), (g2, .int), (g3, .int), (g4, .int), (g5, .int)]) [0, 1, 2, 3, 4, 5] rfl
  have hFc := va_free (wc := [(h0, .inr (8, [.ref h1, .ref h2, .ref h3, .ref h4, .ref h5, .ref h6, .int v0, .int v1, .int 0])), (h1, .inl (g0, 8, .inl f3)), (h2, .inl (g1, 8, .inl f4)), (h3, .inl (g2, 8, .inl f5)), (h4, .inl (g3, 8, .inl f6)), (h5, .inl (g4, 8, .inl f7)), (h6, .inl (g5, 8, .inl f8))]) hD hS hA [0, 1, 2, 3, 4, 5, 6] rfl
  refine va_calli (va_runV (As := [.int 8]) (rest := []) ⟨hx, hb, hml, hown, hts⟩ (k_X8_fewest l dC dI h0 h1 h2 h3 h4 h5 h6 v0 v1 0 g0 f3 g1 f4 g2 f5 g3 f6 g4 f7 g5 f8 8 ⟨by first | omega | decide, by first | omega | decide⟩ H.size) (cwV 1 hts g_X8_fewestByPeace_0 rfl rfl rfl (by decide +kernel) ⟨Nat.le_of_ble_eq_true rfl, Nat.le_of_ble_eq_true rfl⟩) ⟨fun a U g mk q => by obtain ⟨q0, q1, qP, qK, qD⟩ := q; exact ⟨q0, q1, qP, va_K.moved (u := U) (U := U.calling g mk a) (Vm.Alike.refl U.vm) qK, qD⟩, va_recv hKc hPc (ci := 8) (q0 := 0) rfl rfl, fun U hU hW => ⟨rfl, by rw [hU], by rw [hU]; exact hPc, va_K.moved hW.alike hKc, hDc.weaken (fun _ _ _ _ => trivial)⟩⟩ rfl rfl hl.1 rfl (lv_room (Nat.le_of_ble_eq_true rfl)) dX8_fewestByPeace_8 ⟨Nat.le_of_ble_eq_true rfl, Nat.le_of_ble_eq_true rfl⟩) hS (fun q _ h => hFc q h) hFc (fun ra1 u t H1 locs ht hvm hwra1 hB hz1 hk1 hS => ?_)
  obtain ⟨fn2, fn3, fn4, hP1, hK1, hD1⟩ := hB
  rw [ht] at hP1
  obtain ⟨hP, hD⟩ := va_join (wr := []) (w1 := [(h0, .inr (8, [.ref h1, .ref h2, .ref h3, .ref h4, .ref h5, .ref h6, .int v0, .int v1, .int 0])), (h1, .inl (g0, 8, .inl f3)), (h2, .inl (g1, 8, .inl f4)), (h3, .inl (g2, 8, .inl f5)), (h4, .inl (g3, 8, .inl fn2)), (h5, .inl (g4, 8, .inl fn3)), (h6, .inl (g5, 8, .inl fn4))]) hP hD [0, 1, 2, 3, 4, 5, 6] [] rfl rfl (by decide) (by decide) hk1 hFc hP1 hD1
  generalize H1 = H at hP hS ⊢
  have hP : va_P (dC, dI) vwCl [(h0, .inr (8, [.ref h1, .ref h2, .ref h3, .ref h4, .ref h5, .ref h6, .int v0, .int v1, .int 0])), (h1, .inl (g0, 8, .inl f3)), (h2, .inl (g1, 8, .inl f4)), (h3, .inl (g2, 8, .inl f5)), (h4, .inl (g3, 8, .inl fn2)), (h5, .inl (g4, 8, .inl fn3)), (h6, .inl (g5, 8, .inl fn4))] H := hP
  have hD : va_D A [(h0, .inr (8, [.ref h1, .ref h2, .ref h3, .ref h4, .ref h5, .ref h6, .int v0, .int v1, .int 0])), (h1, .inl (g0, 8, .inl f3)), (h2, .inl (g1, 8, .inl f4)), (h3, .inl (g2, 8, .inl f5)), (h4, .inl (g3, 8, .inl fn2)), (h5, .inl (g4, 8, .inl fn3)), (h6, .inl (g5, 8, .inl fn4))] := hD
  obtain ⟨wa_ra1, wb_ra1⟩ := hwra1
  have wa_ra1 : -1 ≤ ra1.toInt := wa_ra1
  have wb_ra1 : ra1.toInt ≤ 8 := wb_ra1
  subst hQ
  have hP9 := hP.sub (ws' := [(h0, .inr (8, [.ref h1, .ref h2, .ref h3, .ref h4, .ref h5, .ref h6, .int v0, .int v1, .int 0])), (h1, .inl (g0, 8, .inl f3)), (h2, .inl (g1, 8, .inl f4)), (h3, .inl (g2, 8, .inl f5)), (h4, .inl (g3, 8, .inl fn2)), (h5, .inl (g4, 8, .inl fn3)), (h6, .inl (g5, 8, .inl fn4))]) [0, 1, 2, 3, 4, 5, 6] rfl
  have hD9 := hD.sub (ws' := [(h0, .inr (8, [.ref h1, .ref h2, .ref h3, .ref h4, .ref h5, .ref h6, .int v0, .int v1, .int 0])), (h1, .inl (g0, 8, .inl f3)), (h2, .inl (g1, 8, .inl f4)), (h3, .inl (g2, 8, .inl f5)), (h4, .inl (g3, 8, .inl fn2)), (h5, .inl (g4, 8, .inl fn3)), (h6, .inl (g5, 8, .inl fn4))]) [0, 1, 2, 3, 4, 5, 6] (by decide) rfl
  have hK9 := hK.sub (tys' := []) [] rfl
  exact W.iret (v := ra1) hx hb hr (fun t ht hW => ⟨⟨ra1, (), rfl, ⟨by first | omega | decide, by first | omega | decide⟩, 0, fn2, fn3, fn4, by first | omega | decide, by first | omega | decide, by rw [ht]; exact hP9, va_K.moved hW.alike hK9, hD9⟩, hS.F ht⟩) hS.2.2 dX8_fewestByPeace_11
def q_X10_cut : List Cond := .code yX10_cut cX10_cut 2 none :: (([.fieldLink RX10 15 "LeftArguments$Tape" "used" "I", .methodLink RX10 28 Lib.Math.min.name, .static Lib.Math.min.name, .initialized "java/lang/Math", .code Lib.Math.min.name Lib.Math.min.code 2 (some .int), .methodLink RX10 34 Lib.Math.max.name, .static Lib.Math.max.name, .code Lib.Math.max.name Lib.Math.max.code 2 (some .int)] : List Cond) ++ wsX100)
set_option maxHeartbeats 4000000 in
set_option maxRecDepth 100000 in
theorem k_X10_cut (l : Launch) (dC : Nat → ClassId) (dI : Nat → Nat → Nat) (h0 : Nat) (r0 : Nat) (v0 : Int32) (v1 : Int32) (v2 : Int32) (v3 : Int32) (v4 : Int32) (i_v0 : 0 ≤ v0.toInt ∧ v0.toInt ≤ 240) (sz : Nat) : Met l yX10_cut q_X10_cut ({ frames := 1, cells := 0, slots := 0, locals := 15 }) (va_Pc [.ref h0, .int v4] (fun U => U.heap.size = sz ∧ va_P (dC, dI) vwCl [(h0, .inr (10, [.ref r0, .int v0, .int v1, .int v2, .int v3]))] U.heap ∧ va_K (dC, dI) vwCl [] U ∧ va_D (fun _ => True) [(h0, .inr (10, [.ref r0, .int v0, .int v1, .int v2, .int v3]))])) (va_Qv (fun (_ : Unit) => True) (fun (_ : Unit) (t : State) => ∃ (o_h0_1 : Int32), 0 ≤ o_h0_1.toInt ∧ o_h0_1.toInt ≤ 240 ∧ va_P (dC, dI) vwCl [(h0, .inr (10, [.ref r0, .int o_h0_1, .int v1, .int v2, .int v3]))] t.heap ∧ va_K (dC, dI) vwCl [] t ∧ va_D (va_A [(h0, .inr (10, [.ref r0, .int v0, .int v1, .int v2, .int v3]))] sz) [(h0, .inr (10, [.ref r0, .int o_h0_1, .int v1, .int v2, .int v3]))]) (va_A [(h0, .inr (10, [.ref r0, .int v0, .int v1, .int v2, .int v3]))] sz)) 0 0 (va_A [(h0, .inr (10, [.ref r0, .int v0, .int v1, .int v2, .int v3]))] sz) := by
  refine Met.ofW (cc := cX10_cut) (maxL := 2) (ret := none) (by decide) rfl ?_
  intro p e s m args below meth c s₁ B hml hv
  obtain ⟨i_v0a, i_v0b⟩ := i_v0
  obtain ⟨rfl, hsz, hP, hK, hD0⟩ := hv
  have hx := B.exec
  have hb := B.bytes
  have hr := B.returns
  have hts := atoms_spec (ws := q_X10_cut) B.pre
  have hown : s.vm.findClass RX10 = some m.cls := findClass_of_methodNamed B.named
  have hlocks := B.notSynchronized
  subst hsz
  have hD := hD0.self (sz := s.heap.size)
  generalize hAe : va_A [(h0, .inr (10, [.ref r0, .int v0, .int v1, .int v2, .int v3]))] s.heap.size = A at hD ⊢
  have hA : ∀ q : Nat, s.heap.size ≤ q → A q := fun q h => by rw [← hAe]; exact Or.inr h
  have hS : va_S A s.heap s.heap [] := va_S.rf
  generalize hQ : (MQ below _ _ s 0 0 A) = Q
  have hl := lv_entry ([.ref h0, .int v4]) (n := 2) (Nat.le_of_ble_eq_true rfl)
  rw [lg_entry_eq]
  generalize (lg_sl ([.ref h0, .int v4]) ++ List.replicate (2 - (lg_sl ([.ref h0, .int v4])).length) Slot.unset).toArray = ls at hl ⊢
  have hl : lv_has ls 2 [(0, .ref h0), (1, .int v4)] := hl
  obtain ⟨H, hH⟩ : ∃ H : Heap, H = s.heap := ⟨_, rfl⟩
  obtain ⟨locs, hlocs⟩ : ∃ y : List Loc, y = [] := ⟨_, rfl⟩
  have hS : va_S A s.heap H locs := by rw [hH, hlocs]; exact va_S.rf
  have hP : va_P (dC, dI) vwCl [(h0, .inr (10, [.ref r0, .int v0, .int v1, .int v2, .int v3]))] H := by rw [hH]; exact hP
  rw [← hH, ← hlocs]
  refine lv_aload_n hx hb dX10_cut_0 rfl (lv_at hl 0 rfl) ?_
  refine lv_iconst (v := 0) hx hb dX10_cut_1 (by decide) ?_
  refine lv_aload_n hx hb dX10_cut_2 rfl (lv_at hl 0 rfl) ?_
  refine va_get (D := (dC, dI)) (ci := 10) (v := .int v0) (C := RX10) (T := TX10) (N := 5) hx hb hts (fun _ h => List.mem_cons_of_mem _ (List.mem_append_right _ h)) hown hK hP 0 rfl rfl 1 (by decide) (hts (.fieldLink RX10 15 "LeftArguments$Tape" "used" "I") (List.mem_cons_of_mem _ (List.mem_append_left _ (List.mem_of_getElem? (i := 0) rfl)))) (fun _ h9 => h9) rfl dX10_cut_3 ?_
  refine lv_iload_n hx hb dX10_cut_6 rfl (lv_at hl 1 rfl) ?_
  refine va_mmin hx hb (by rw [hml]; exact hl.1.symm) hown (hts (.methodLink RX10 28 Lib.Math.min.name) (List.mem_cons_of_mem _ (List.mem_append_left _ (List.mem_of_getElem? (i := 1) rfl)))) (hts (.static Lib.Math.min.name) (List.mem_cons_of_mem _ (List.mem_append_left _ (List.mem_of_getElem? (i := 2) rfl)))) (hts (.initialized "java/lang/Math") (List.mem_cons_of_mem _ (List.mem_append_left _ (List.mem_of_getElem? (i := 3) rfl)))) (hts (.code Lib.Math.min.name Lib.Math.min.code 2 (some .int)) (List.mem_cons_of_mem _ (List.mem_append_left _ (List.mem_of_getElem? (i := 4) rfl)))) (Nat.le_of_ble_eq_true rfl) (Nat.le_of_ble_eq_true rfl) (Nat.le_of_ble_eq_true rfl) (Nat.le_of_ble_eq_true rfl) dX10_cut_7 ?_
  refine lv_topi (fun t1 et1 => ?_)
  obtain ⟨gat1, gbt1, gct1⟩ := pv_min (a := v0.toInt) (b := v4.toInt) et1 rfl rfl
  refine va_mmax hx hb (by rw [hml]; exact hl.1.symm) hown (hts (.methodLink RX10 34 Lib.Math.max.name) (List.mem_cons_of_mem _ (List.mem_append_left _ (List.mem_of_getElem? (i := 5) rfl)))) (hts (.static Lib.Math.max.name) (List.mem_cons_of_mem _ (List.mem_append_left _ (List.mem_of_getElem? (i := 6) rfl)))) (hts (.initialized "java/lang/Math") (List.mem_cons_of_mem _ (List.mem_append_left _ (List.mem_of_getElem? (i := 3) rfl)))) (hts (.code Lib.Math.max.name Lib.Math.max.code 2 (some .int)) (List.mem_cons_of_mem _ (List.mem_append_left _ (List.mem_of_getElem? (i := 7) rfl)))) (Nat.le_of_ble_eq_true rfl) (Nat.le_of_ble_eq_true rfl) (Nat.le_of_ble_eq_true rfl) (Nat.le_of_ble_eq_true rfl) dX10_cut_10 ?_
  refine lv_topi (fun t2 et2 => ?_)
  obtain ⟨gat2, gbt2, gct2⟩ := pv_max (a := 0) (b := t1.toInt) et2 (by decide) rfl
  refine va_put (D := (dC, dI)) (ci := 10) (v := .int t2) (ty := .int) (C := RX10) (T := TX10) (N := 5) hx hb hts (fun _ h => List.mem_cons_of_mem _ (List.mem_append_right _ h)) tyX10 tyX10_ok nmX10 hown hK hP hD hS 0 rfl rfl 1 (by decide) (hts (.fieldLink RX10 15 "LeftArguments$Tape" "used" "I") (List.mem_cons_of_mem _ (List.mem_append_left _ (List.mem_of_getElem? (i := 0) rfl)))) (fun _ h9 => h9) rfl (by decide +kernel) rfl rfl (Nat.le_of_ble_eq_true rfl) dX10_cut_13 (fun H locs hP hD hS => ?_)
  have hP : va_P (dC, dI) vwCl [(h0, .inr (10, [.ref r0, .int t2, .int v1, .int v2, .int v3]))] H := hP
  have hD : va_D A [(h0, .inr (10, [.ref r0, .int t2, .int v1, .int v2, .int v3]))] := hD
  subst hQ
  have hP9 := hP.sub (ws' := [(h0, .inr (10, [.ref r0, .int t2, .int v1, .int v2, .int v3]))]) [0] rfl
  have hD9 := hD.sub (ws' := [(h0, .inr (10, [.ref r0, .int t2, .int v1, .int v2, .int v3]))]) [0] (by decide) rfl
  have hK9 := hK.sub (tys' := []) [] rfl
  exact W.vret hx hb hr (fun t ht hW => ⟨⟨(), rfl, trivial, t2, by first | omega | decide, by first | omega | decide, by rw [ht]; exact hP9, va_K.moved hW.alike hK9, hD9⟩, hS.F ht⟩) hS.2.2 dX10_cut_16
def q_X1_told : List Cond := .code yX1_told cX1_told 4 (some .int) :: (([.code yX1_lengthOn cX1_lengthOn 1 (some .int), .methodLink RX1 25 Lib.Math.min.name, .static Lib.Math.min.name, .initialized "java/lang/Math", .code Lib.Math.min.name Lib.Math.min.code 2 (some .int), .initialized RX1, .static yX1_lengthOn, .methodLink RX1 28 yX1_lengthOn, .fieldLink RX1 11 "LeftArguments$Chronicle" "rows" "[I", .code yX1_rowOf cX1_rowOf 1 (some .int), .code yJ9_floorMod_7cf53 cJ9_floorMod_7cf53 3 (some .int), .initialized RJ9, .static yJ9_floorMod_7cf53, .methodLink RX1 19 yJ9_floorMod_7cf53, .static yX1_rowOf, .methodLink RX1 15 yX1_rowOf] : List Cond) ++ wsX10)
set_option maxRecDepth 20000 in
theorem g_X1_told_0 : GoodIn q_X1_told (va_wsS RX1 28 yX1_lengthOn q_X1_lengthOn) := goodIn_app (goodIn_r _ [8, 7, 6] (by decide +kernel) (by decide +kernel)) (goodIn_r (.code yX1_lengthOn cX1_lengthOn 1 (some .int) :: [.methodLink RX1 25 Lib.Math.min.name, .static Lib.Math.min.name, .initialized "java/lang/Math", .code Lib.Math.min.name Lib.Math.min.code 2 (some .int)]) [1, 2, 3, 4, 5] (by decide +kernel) (by decide +kernel))
set_option maxRecDepth 20000 in
theorem g_X1_told_1 : GoodIn q_X1_told (va_wsS RX1 15 yX1_rowOf q_X1_rowOf) := goodIn_app (goodIn_r _ [16, 15, 6] (by decide +kernel) (by decide +kernel)) (goodIn_r (.code yX1_rowOf cX1_rowOf 1 (some .int) :: [.code yJ9_floorMod_7cf53 cJ9_floorMod_7cf53 3 (some .int), .initialized RJ9, .static yJ9_floorMod_7cf53, .methodLink RX1 19 yJ9_floorMod_7cf53]) [10, 11, 12, 13, 14] (by decide +kernel) (by decide +kernel))
set_option maxHeartbeats 4000000 in
set_option maxRecDepth 100000 in
theorem k_X1_told (l : Launch) (dC : Nat → ClassId) (dI : Nat → Nat → Nat) (h0 : Nat) (h1 : Nat) (g0 : ClassId) (f0 : Nat → Int32) (v1 : Int32) (v2 : Int32) (v3 : Int32) (sz : Nat) : Met l yX1_told q_X1_told ({ frames := 2, cells := 0, slots := 0, locals := 42 }) (va_Pc [.ref h0, .int v1, .int v2, .int v3] (fun U => U.heap.size = sz ∧ va_P (dC, dI) vwCl [(h0, .inr (1, [.ref h1])), (h1, .inl (g0, 300, .inl f0))] U.heap ∧ va_K (dC, dI) vwCl [(g0, .int)] U ∧ va_D (fun _ => True) [(h0, .inr (1, [.ref h1])), (h1, .inl (g0, 300, .inl f0))])) (va_Qi (fun (r : Int32) (_ : Unit) => True) (fun (_ : Unit) (t : State) => va_P (dC, dI) vwCl [(h0, .inr (1, [.ref h1])), (h1, .inl (g0, 300, .inl f0))] t.heap ∧ va_K (dC, dI) vwCl [] t ∧ va_D (va_A [(h0, .inr (1, [.ref h1])), (h1, .inl (g0, 300, .inl f0))] sz) [(h0, .inr (1, [.ref h1])), (h1, .inl (g0, 300, .inl f0))]) (va_A [(h0, .inr (1, [.ref h1])), (h1, .inl (g0, 300, .inl f0))] sz)) 0 0 (va_A [(h0, .inr (1, [.ref h1])), (h1, .inl (g0, 300, .inl f0))] sz) := by
  refine Met.ofW (cc := cX1_told) (maxL := 4) (ret := (some .int)) (by decide) rfl ?_
  intro p e s m args below meth c s₁ B hml hv
  obtain ⟨rfl, hsz, hP, hK, hD0⟩ := hv
  have hx := B.exec
  have hb := B.bytes
  have hr := B.returns
  have hts := atoms_spec (ws := q_X1_told) B.pre
  have hown : s.vm.findClass RX1 = some m.cls := findClass_of_methodNamed B.named
  have hlocks := B.notSynchronized
  subst hsz
  have hD := hD0.self (sz := s.heap.size)
  generalize hAe : va_A [(h0, .inr (1, [.ref h1])), (h1, .inl (g0, 300, .inl f0))] s.heap.size = A at hD ⊢
  have hA : ∀ q : Nat, s.heap.size ≤ q → A q := fun q h => by rw [← hAe]; exact Or.inr h
  have hS : va_S A s.heap s.heap [] := va_S.rf
  generalize hQ : (MQ below _ _ s 0 0 A) = Q
  have hl := lv_entry ([.ref h0, .int v1, .int v2, .int v3]) (n := 4) (Nat.le_of_ble_eq_true rfl)
  rw [lg_entry_eq]
  generalize (lg_sl ([.ref h0, .int v1, .int v2, .int v3]) ++ List.replicate (4 - (lg_sl ([.ref h0, .int v1, .int v2, .int v3])).length) Slot.unset).toArray = ls at hl ⊢
  have hl : lv_has ls 4 [(0, .ref h0), (1, .int v1), (2, .int v2), (3, .int v3)] := hl
  obtain ⟨H, hH⟩ : ∃ H : Heap, H = s.heap := ⟨_, rfl⟩
  obtain ⟨locs, hlocs⟩ : ∃ y : List Loc, y = [] := ⟨_, rfl⟩
  have hS : va_S A s.heap H locs := by rw [hH, hlocs]; exact va_S.rf
  have hP : va_P (dC, dI) vwCl [(h0, .inr (1, [.ref h1])), (h1, .inl (g0, 300, .inl f0))] H := by rw [hH]; exact hP
  rw [← hH, ← hlocs]
  refine lv_iload_n hx hb dX1_told_0 rfl (lv_at hl 2 rfl) ?_
  refine lv_if_lt (tgt := 21) hx hb dX1_told_1 (by decide) (fun c1 => ?_) (fun c1 => ?_)
  · skip
    have fc1 : v2.toInt < 0 := Int32.lt_iff_toInt_lt.mp c1
    refine lv_iconst (v := (-1)) hx hb dX1_told_21 (by decide) ?_
    subst hQ
    have hP9 := hP.sub (ws' := [(h0, .inr (1, [.ref h1])), (h1, .inl (g0, 300, .inl f0))]) [0, 1] rfl
    have hD9 := hD.sub (ws' := [(h0, .inr (1, [.ref h1])), (h1, .inl (g0, 300, .inl f0))]) [0, 1] (by decide) rfl
    have hK9 := hK.sub (tys' := []) [] rfl
    exact W.iret (v := (-1)) hx hb hr (fun t ht hW => ⟨⟨(-1), (), rfl, trivial, by rw [ht]; exact hP9, va_K.moved hW.alike hK9, hD9⟩, hS.F ht⟩) hS.2.2 dX1_told_22
  · skip
    have fc1 : ¬ (v2.toInt < 0) := fun h9 => c1 (Int32.lt_iff_toInt_lt.mpr h9)
    refine lv_iload_n hx hb dX1_told_4 rfl (lv_at hl 2 rfl) ?_
    refine lv_iload_n hx hb dX1_told_5 rfl (lv_at hl 1 rfl) ?_
    have hPc := hP.sub (ws' := []) [] rfl
    have hDc := hD.sub (ws' := []) [] (by decide) rfl
    have hKc := hK.sub (tys' := []) [] rfl
    have hFc := va_free (wc := []) hD hS hA [] rfl
    refine va_calli (va_runS (As := [.int v1]) (rest := [.int v2]) ⟨hx, hb, hml, hown, hts⟩ (k_X1_lengthOn l dC dI v1  H.size) (va_cwS 1 hts g_X1_told_0 rfl rfl rfl (by decide +kernel) ⟨Nat.le_of_ble_eq_true rfl, Nat.le_of_ble_eq_true rfl⟩) ⟨fun a U g mk q => by obtain ⟨q0, q1, qP, qK, qD⟩ := q; exact ⟨q0, q1, qP, va_K.moved (u := U) (U := U.calling g mk a) (Vm.Alike.refl U.vm) qK, qD⟩, fun U hU hW => ⟨rfl, by rw [hU], by rw [hU]; exact hPc, va_K.moved hW.alike hKc, hDc.weaken (fun _ _ _ _ => trivial)⟩⟩ rfl rfl hl.1 rfl (lv_room (Nat.le_of_ble_eq_true rfl)) dX1_told_6 ⟨Nat.le_of_ble_eq_true rfl, Nat.le_of_ble_eq_true rfl⟩) hS (fun q _ h => hFc q h) hFc (fun ra2 u t H1 locs ht hvm hwra2 hB hz1 hk1 hS => ?_)
    obtain ⟨hP1, hK1, hD1⟩ := hB
    rw [ht] at hP1
    obtain ⟨hP, hD⟩ := va_join (wr := [(h0, .inr (1, [.ref h1])), (h1, .inl (g0, 300, .inl f0))]) (w1 := []) hP hD [] [0, 1] rfl rfl (by decide) (by decide) hk1 hFc hP1 hD1
    generalize H1 = H at hP hS ⊢
    have hP : va_P (dC, dI) vwCl [(h0, .inr (1, [.ref h1])), (h1, .inl (g0, 300, .inl f0))] H := hP
    have hD : va_D A [(h0, .inr (1, [.ref h1])), (h1, .inl (g0, 300, .inl f0))] := hD
    have wa_ra2 : ra2.toInt ≤ 60 := hwra2
    refine lv_icmp_ge (tgt := 21) hx hb dX1_told_9 (by decide) (fun c3 => ?_) (fun c3 => ?_)
    · skip
      have fc3 : ra2.toInt ≤ v2.toInt := Int32.le_iff_toInt_le.mp c3
      have r1c3 := Int32.toInt_lt v2
      have r2c3 := Int32.toInt_lt ra2
      have r3c3 := Int32.le_toInt v2
      have r4c3 := Int32.le_toInt ra2
      refine lv_iconst (v := (-1)) hx hb dX1_told_21 (by decide) ?_
      subst hQ
      have hP9 := hP.sub (ws' := [(h0, .inr (1, [.ref h1])), (h1, .inl (g0, 300, .inl f0))]) [0, 1] rfl
      have hD9 := hD.sub (ws' := [(h0, .inr (1, [.ref h1])), (h1, .inl (g0, 300, .inl f0))]) [0, 1] (by decide) rfl
      have hK9 := hK.sub (tys' := []) [] rfl
      exact W.iret (v := (-1)) hx hb hr (fun t ht hW => ⟨⟨(-1), (), rfl, trivial, by rw [ht]; exact hP9, va_K.moved hW.alike hK9, hD9⟩, hS.F ht⟩) hS.2.2 dX1_told_22
    · skip
      have fc3 : ¬ (ra2.toInt ≤ v2.toInt) := fun h9 => c3 (Int32.le_iff_toInt_le.mpr h9)
      have r1c3 := Int32.toInt_lt v2
      have r2c3 := Int32.toInt_lt ra2
      have r3c3 := Int32.le_toInt v2
      have r4c3 := Int32.le_toInt ra2
      refine lv_iload_n hx hb dX1_told_12 rfl (lv_at hl 3 rfl) ?_
      refine lv_if_lt (tgt := 21) hx hb dX1_told_13 (by decide) (fun c4 => ?_) (fun c4 => ?_)
      · skip
        have fc4 : v3.toInt < 0 := Int32.lt_iff_toInt_lt.mp c4
        refine lv_iconst (v := (-1)) hx hb dX1_told_21 (by decide) ?_
        subst hQ
        have hP9 := hP.sub (ws' := [(h0, .inr (1, [.ref h1])), (h1, .inl (g0, 300, .inl f0))]) [0, 1] rfl
        have hD9 := hD.sub (ws' := [(h0, .inr (1, [.ref h1])), (h1, .inl (g0, 300, .inl f0))]) [0, 1] (by decide) rfl
        have hK9 := hK.sub (tys' := []) [] rfl
        exact W.iret (v := (-1)) hx hb hr (fun t ht hW => ⟨⟨(-1), (), rfl, trivial, by rw [ht]; exact hP9, va_K.moved hW.alike hK9, hD9⟩, hS.F ht⟩) hS.2.2 dX1_told_22
      · skip
        have fc4 : ¬ (v3.toInt < 0) := fun h9 => c4 (Int32.lt_iff_toInt_lt.mpr h9)
        refine lv_iload_n hx hb dX1_told_16 rfl (lv_at hl 3 rfl) ?_
        refine lv_iconst (v := 3) hx hb dX1_told_17 (by decide) ?_
        refine lv_icmp_lt (tgt := 23) hx hb dX1_told_18 (by decide) (fun c5 => ?_) (fun c5 => ?_)
        · skip
          have fc5 : v3.toInt < 3 := Int32.lt_iff_toInt_lt.mp c5
          refine lv_aload_n hx hb dX1_told_23 rfl (lv_at hl 0 rfl) ?_
          refine va_get (D := (dC, dI)) (ci := 1) (v := .ref h1) (C := RX1) (T := TX1) (N := 1) hx hb hts (fun _ h => List.mem_cons_of_mem _ (List.mem_append_right _ h)) hown hK hP 0 rfl rfl 0 (by decide) (hts (.fieldLink RX1 11 "LeftArguments$Chronicle" "rows" "[I") (List.mem_cons_of_mem _ (List.mem_append_left _ (List.mem_of_getElem? (i := 8) rfl)))) (fun _ h9 => h9) rfl dX1_told_24 ?_
          refine lv_iload_n hx hb dX1_told_27 rfl (lv_at hl 1 rfl) ?_
          refine lv_iconst (v := 1) hx hb dX1_told_28 (by decide) ?_
          refine lv_isub hx hb dX1_told_29 ?_
          refine lv_topi (fun t6 et6 => ?_)
          refine lv_iload_n hx hb dX1_told_30 rfl (lv_at hl 2 rfl) ?_
          refine lv_isub hx hb dX1_told_31 ?_
          refine lv_topi (fun t7 et7 => ?_)
          have hPc := hP.sub (ws' := []) [] rfl
          have hDc := hD.sub (ws' := []) [] (by decide) rfl
          have hKc := hK.sub (tys' := []) [] rfl
          have hFc := va_free (wc := []) hD hS hA [] rfl
          refine va_calli (va_runS (As := [.int t7]) (rest := [.ref h1]) ⟨hx, hb, hml, hown, hts⟩ (k_X1_rowOf l dC dI t7  H.size) (va_cwS 1 hts g_X1_told_1 rfl rfl rfl (by decide +kernel) ⟨Nat.le_of_ble_eq_true rfl, Nat.le_of_ble_eq_true rfl⟩) ⟨fun a U g mk q => by obtain ⟨q0, q1, qP, qK, qD⟩ := q; exact ⟨q0, q1, qP, va_K.moved (u := U) (U := U.calling g mk a) (Vm.Alike.refl U.vm) qK, qD⟩, fun U hU hW => ⟨rfl, by rw [hU], by rw [hU]; exact hPc, va_K.moved hW.alike hKc, hDc.weaken (fun _ _ _ _ => trivial)⟩⟩ rfl rfl hl.1 rfl (lv_room (Nat.le_of_ble_eq_true rfl)) dX1_told_32 ⟨Nat.le_of_ble_eq_true rfl, Nat.le_of_ble_eq_true rfl⟩) hS (fun q _ h => hFc q h) hFc (fun ra8 u t H1 locs ht hvm hwra8 hB hz1 hk1 hS => ?_)
          obtain ⟨hP1, hK1, hD1⟩ := hB
          rw [ht] at hP1
          obtain ⟨hP, hD⟩ := va_join (wr := [(h0, .inr (1, [.ref h1])), (h1, .inl (g0, 300, .inl f0))]) (w1 := []) hP hD [] [0, 1] rfl rfl (by decide) (by decide) hk1 hFc hP1 hD1
          generalize H1 = H at hP hS ⊢
          have hP : va_P (dC, dI) vwCl [(h0, .inr (1, [.ref h1])), (h1, .inl (g0, 300, .inl f0))] H := hP
          have hD : va_D A [(h0, .inr (1, [.ref h1])), (h1, .inl (g0, 300, .inl f0))] := hD
          obtain ⟨wa_ra8, wb_ra8⟩ := hwra8
          have wa_ra8 : 0 ≤ ra8.toInt := wa_ra8
          have wb_ra8 : ra8.toInt ≤ 297 := wb_ra8
          refine lv_iload_n hx hb dX1_told_35 rfl (lv_at hl 3 rfl) ?_
          refine lv_iadd hx hb dX1_told_36 ?_
          refine lv_topi (fun t9 et9 => ?_)
          have gt9 : t9.toInt = ra8.toInt + v3.toInt := pv_add (a := ra8.toInt) (b := v3.toInt) et9 rfl rfl (by omega) (by omega)
          refine va_iald hx hb hK hP 1 0 rfl rfl (vp_in_iff.mpr ⟨by omega, by omega⟩) dX1_told_37 ?_
          refine lv_topi (fun t10 et10 => ?_)
          subst hQ
          have hP9 := hP.sub (ws' := [(h0, .inr (1, [.ref h1])), (h1, .inl (g0, 300, .inl f0))]) [0, 1] rfl
          have hD9 := hD.sub (ws' := [(h0, .inr (1, [.ref h1])), (h1, .inl (g0, 300, .inl f0))]) [0, 1] (by decide) rfl
          have hK9 := hK.sub (tys' := []) [] rfl
          exact W.iret (v := t10) hx hb hr (fun t ht hW => ⟨⟨t10, (), rfl, trivial, by rw [ht]; exact hP9, va_K.moved hW.alike hK9, hD9⟩, hS.F ht⟩) hS.2.2 dX1_told_38
        · skip
          have fc5 : ¬ (v3.toInt < 3) := fun h9 => c5 (Int32.lt_iff_toInt_lt.mpr h9)
          refine lv_iconst (v := (-1)) hx hb dX1_told_21 (by decide) ?_
          subst hQ
          have hP9 := hP.sub (ws' := [(h0, .inr (1, [.ref h1])), (h1, .inl (g0, 300, .inl f0))]) [0, 1] rfl
          have hD9 := hD.sub (ws' := [(h0, .inr (1, [.ref h1])), (h1, .inl (g0, 300, .inl f0))]) [0, 1] (by decide) rfl
          have hK9 := hK.sub (tys' := []) [] rfl
          exact W.iret (v := (-1)) hx hb hr (fun t ht hW => ⟨⟨(-1), (), rfl, trivial, by rw [ht]; exact hP9, va_K.moved hW.alike hK9, hD9⟩, hS.F ht⟩) hS.2.2 dX1_told_22
def q_X11_log : List Cond := .code yX11_log cX11_log 3 (some .int) :: (([.fieldLink RX11 56 "LeftArguments" "chronicle" "LLeftArguments$Chronicle;", .fieldLink RX11 49 "LeftArguments" "room" "LLeftArguments$Room;", .code yX7_day cX7_day 1 (some .int), .fieldLink RX7 11 "LeftArguments$Room" "cells" "[I", .initialized RX7, .instanceMethod yX7_day, .selects RX7 yX7_day yX7_day, .methodLink RX11 200 yX7_day, .code yX1_told cX1_told 4 (some .int), .code yX1_lengthOn cX1_lengthOn 1 (some .int), .methodLink RX1 25 Lib.Math.min.name, .static Lib.Math.min.name, .initialized "java/lang/Math", .code Lib.Math.min.name Lib.Math.min.code 2 (some .int), .initialized RX1, .static yX1_lengthOn, .methodLink RX1 28 yX1_lengthOn, .fieldLink RX1 11 "LeftArguments$Chronicle" "rows" "[I", .code yX1_rowOf cX1_rowOf 1 (some .int), .code yJ9_floorMod_7cf53 cJ9_floorMod_7cf53 3 (some .int), .initialized RJ9, .static yJ9_floorMod_7cf53, .methodLink RX1 19 yJ9_floorMod_7cf53, .static yX1_rowOf, .methodLink RX1 15 yX1_rowOf, .instanceMethod yX1_told, .selects RX1 yX1_told yX1_told, .methodLink RX11 209 yX1_told] : List Cond) ++ wsX110 ++ wsX70 ++ wsX10)
set_option maxRecDepth 20000 in
theorem g_X11_log_0 : GoodIn q_X11_log (wsV RX11 200 RX7 yX7_day q_X7_day) := goodIn_app (goodIn_r _ [8, 6, 7, 5] (by decide +kernel) (by decide +kernel)) (goodIn_ca (goodIn_r (.code yX7_day cX7_day 1 (some .int) :: [.fieldLink RX7 11 "LeftArguments$Room" "cells" "[I"]) [3, 4] (by decide +kernel) (by decide +kernel)) (goodIn_sub (fun _ h => List.mem_cons_of_mem _ (List.mem_append_left _ (List.mem_append_right _ h))) gwX7))
set_option maxRecDepth 20000 in
theorem g_X11_log_1 : GoodIn q_X11_log (wsV RX11 209 RX1 yX1_told q_X1_told) := goodIn_app (goodIn_r _ [28, 26, 27, 15] (by decide +kernel) (by decide +kernel)) (goodIn_ca (goodIn_r (.code yX1_told cX1_told 4 (some .int) :: [.code yX1_lengthOn cX1_lengthOn 1 (some .int), .methodLink RX1 25 Lib.Math.min.name, .static Lib.Math.min.name, .initialized "java/lang/Math", .code Lib.Math.min.name Lib.Math.min.code 2 (some .int), .initialized RX1, .static yX1_lengthOn, .methodLink RX1 28 yX1_lengthOn, .fieldLink RX1 11 "LeftArguments$Chronicle" "rows" "[I", .code yX1_rowOf cX1_rowOf 1 (some .int), .code yJ9_floorMod_7cf53 cJ9_floorMod_7cf53 3 (some .int), .initialized RJ9, .static yJ9_floorMod_7cf53, .methodLink RX1 19 yJ9_floorMod_7cf53, .static yX1_rowOf, .methodLink RX1 15 yX1_rowOf]) [9, 10, 11, 12, 13, 14, 15, 16, 17, 18, 19, 20, 21, 22, 23, 24, 25] (by decide +kernel) (by decide +kernel)) (goodIn_sub (fun _ h => List.mem_cons_of_mem _ (List.mem_append_right _ h)) gwX1))
set_option maxHeartbeats 4000000 in
set_option maxRecDepth 100000 in
theorem k_X11_log (l : Launch) (dC : Nat → ClassId) (dI : Nat → Nat → Nat) (h0 : Nat) (h1 : Nat) (h2 : Nat) (h3 : Nat) (h4 : Nat) (r0 : Nat) (r1 : Nat) (r2 : Nat) (r3 : Nat) (r4 : Nat) (r5 : Nat) (r6 : Nat) (r7 : Nat) (r8 : Nat) (r9 : Nat) (r10 : Nat) (r11 : Nat) (v0 : Int32) (v1 : Int32) (w2 : Int64) (r12 : Nat) (v3 : Int32) (v4 : Int32) (g0 : ClassId) (f5 : Nat → Int32) (g1 : ClassId) (f6 : Nat → Int32) (v7 : Int32) (v8 : Int32) (i_v0 : 0 ≤ v0.toInt ∧ v0.toInt ≤ 1) (sz : Nat) : Met l yX11_log q_X11_log ({ frames := 3, cells := 0, slots := 0, locals := 65 }) (va_Pc [.ref h0, .int v7, .int v8] (fun U => U.heap.size = sz ∧ va_P (dC, dI) vwCl [(h0, .inr (11, [.ref r0, .ref r1, .ref r2, .ref r3, .ref r4, .ref h1, .ref h3, .ref r5, .ref r6, .ref r7, .ref r8, .ref r9, .ref r10, .ref r11, .int v0, .int v1, .long w2])), (h1, .inr (7, [.ref h2, .ref r12, .int v3, .int v4])), (h2, .inl (g0, 58, .inl f5)), (h3, .inr (1, [.ref h4])), (h4, .inl (g1, 300, .inl f6))] U.heap ∧ va_K (dC, dI) vwCl [(g0, .int), (g1, .int)] U ∧ va_D (fun _ => True) [(h0, .inr (11, [.ref r0, .ref r1, .ref r2, .ref r3, .ref r4, .ref h1, .ref h3, .ref r5, .ref r6, .ref r7, .ref r8, .ref r9, .ref r10, .ref r11, .int v0, .int v1, .long w2])), (h1, .inr (7, [.ref h2, .ref r12, .int v3, .int v4])), (h2, .inl (g0, 58, .inl f5)), (h3, .inr (1, [.ref h4])), (h4, .inl (g1, 300, .inl f6))])) (va_Qi (fun (r : Int32) (_ : Unit) => True) (fun (_ : Unit) (t : State) => va_P (dC, dI) vwCl [(h0, .inr (11, [.ref r0, .ref r1, .ref r2, .ref r3, .ref r4, .ref h1, .ref h3, .ref r5, .ref r6, .ref r7, .ref r8, .ref r9, .ref r10, .ref r11, .int v0, .int v1, .long w2])), (h1, .inr (7, [.ref h2, .ref r12, .int v3, .int v4])), (h2, .inl (g0, 58, .inl f5)), (h3, .inr (1, [.ref h4])), (h4, .inl (g1, 300, .inl f6))] t.heap ∧ va_K (dC, dI) vwCl [] t ∧ va_D (va_A [(h0, .inr (11, [.ref r0, .ref r1, .ref r2, .ref r3, .ref r4, .ref h1, .ref h3, .ref r5, .ref r6, .ref r7, .ref r8, .ref r9, .ref r10, .ref r11, .int v0, .int v1, .long w2])), (h1, .inr (7, [.ref h2, .ref r12, .int v3, .int v4])), (h2, .inl (g0, 58, .inl f5)), (h3, .inr (1, [.ref h4])), (h4, .inl (g1, 300, .inl f6))] sz) [(h0, .inr (11, [.ref r0, .ref r1, .ref r2, .ref r3, .ref r4, .ref h1, .ref h3, .ref r5, .ref r6, .ref r7, .ref r8, .ref r9, .ref r10, .ref r11, .int v0, .int v1, .long w2])), (h1, .inr (7, [.ref h2, .ref r12, .int v3, .int v4])), (h2, .inl (g0, 58, .inl f5)), (h3, .inr (1, [.ref h4])), (h4, .inl (g1, 300, .inl f6))]) (va_A [(h0, .inr (11, [.ref r0, .ref r1, .ref r2, .ref r3, .ref r4, .ref h1, .ref h3, .ref r5, .ref r6, .ref r7, .ref r8, .ref r9, .ref r10, .ref r11, .int v0, .int v1, .long w2])), (h1, .inr (7, [.ref h2, .ref r12, .int v3, .int v4])), (h2, .inl (g0, 58, .inl f5)), (h3, .inr (1, [.ref h4])), (h4, .inl (g1, 300, .inl f6))] sz)) 0 0 (va_A [(h0, .inr (11, [.ref r0, .ref r1, .ref r2, .ref r3, .ref r4, .ref h1, .ref h3, .ref r5, .ref r6, .ref r7, .ref r8, .ref r9, .ref r10, .ref r11, .int v0, .int v1, .long w2])), (h1, .inr (7, [.ref h2, .ref r12, .int v3, .int v4])), (h2, .inl (g0, 58, .inl f5)), (h3, .inr (1, [.ref h4])), (h4, .inl (g1, 300, .inl f6))] sz) := by
  refine Met.ofW (cc := cX11_log) (maxL := 3) (ret := (some .int)) (by decide) rfl ?_
  intro p e s m args below meth c s₁ B hml hv
  obtain ⟨i_v0a, i_v0b⟩ := i_v0
  obtain ⟨rfl, hsz, hP, hK, hD0⟩ := hv
  have hx := B.exec
  have hb := B.bytes
  have hr := B.returns
  have hts := atoms_spec (ws := q_X11_log) B.pre
  have hown : s.vm.findClass RX11 = some m.cls := findClass_of_methodNamed B.named
  have hlocks := B.notSynchronized
  subst hsz
  have hD := hD0.self (sz := s.heap.size)
  generalize hAe : va_A [(h0, .inr (11, [.ref r0, .ref r1, .ref r2, .ref r3, .ref r4, .ref h1, .ref h3, .ref r5, .ref r6, .ref r7, .ref r8, .ref r9, .ref r10, .ref r11, .int v0, .int v1, .long w2])), (h1, .inr (7, [.ref h2, .ref r12, .int v3, .int v4])), (h2, .inl (g0, 58, .inl f5)), (h3, .inr (1, [.ref h4])), (h4, .inl (g1, 300, .inl f6))] s.heap.size = A at hD ⊢
  have hA : ∀ q : Nat, s.heap.size ≤ q → A q := fun q h => by rw [← hAe]; exact Or.inr h
  have hS : va_S A s.heap s.heap [] := va_S.rf
  generalize hQ : (MQ below _ _ s 0 0 A) = Q
  have hl := lv_entry ([.ref h0, .int v7, .int v8]) (n := 3) (Nat.le_of_ble_eq_true rfl)
  rw [lg_entry_eq]
  generalize (lg_sl ([.ref h0, .int v7, .int v8]) ++ List.replicate (3 - (lg_sl ([.ref h0, .int v7, .int v8])).length) Slot.unset).toArray = ls at hl ⊢
  have hl : lv_has ls 3 [(0, .ref h0), (1, .int v7), (2, .int v8)] := hl
  obtain ⟨H, hH⟩ : ∃ H : Heap, H = s.heap := ⟨_, rfl⟩
  obtain ⟨locs, hlocs⟩ : ∃ y : List Loc, y = [] := ⟨_, rfl⟩
  have hS : va_S A s.heap H locs := by rw [hH, hlocs]; exact va_S.rf
  have hP : va_P (dC, dI) vwCl [(h0, .inr (11, [.ref r0, .ref r1, .ref r2, .ref r3, .ref r4, .ref h1, .ref h3, .ref r5, .ref r6, .ref r7, .ref r8, .ref r9, .ref r10, .ref r11, .int v0, .int v1, .long w2])), (h1, .inr (7, [.ref h2, .ref r12, .int v3, .int v4])), (h2, .inl (g0, 58, .inl f5)), (h3, .inr (1, [.ref h4])), (h4, .inl (g1, 300, .inl f6))] H := by rw [hH]; exact hP
  rw [← hH, ← hlocs]
  refine lv_aload_n hx hb dX11_log_0 rfl (lv_at hl 0 rfl) ?_
  refine va_get (D := (dC, dI)) (ci := 11) (v := .ref h3) (C := RX11) (T := TX11) (N := 17) hx hb hts (fun _ h => List.mem_cons_of_mem _ (List.mem_append_left _ (List.mem_append_left _ (List.mem_append_right _ h)))) hown hK hP 0 rfl rfl 6 (by decide) (hts (.fieldLink RX11 56 "LeftArguments" "chronicle" "LLeftArguments$Chronicle;") (List.mem_cons_of_mem _ (List.mem_append_left _ (List.mem_append_left _ (List.mem_append_left _ (List.mem_of_getElem? (i := 0) rfl)))))) (fun _ h9 => h9) rfl dX11_log_1 ?_
  refine lv_aload_n hx hb dX11_log_4 rfl (lv_at hl 0 rfl) ?_
  refine va_get (D := (dC, dI)) (ci := 11) (v := .ref h1) (C := RX11) (T := TX11) (N := 17) hx hb hts (fun _ h => List.mem_cons_of_mem _ (List.mem_append_left _ (List.mem_append_left _ (List.mem_append_right _ h)))) hown hK hP 0 rfl rfl 5 (by decide) (hts (.fieldLink RX11 49 "LeftArguments" "room" "LLeftArguments$Room;") (List.mem_cons_of_mem _ (List.mem_append_left _ (List.mem_append_left _ (List.mem_append_left _ (List.mem_of_getElem? (i := 1) rfl)))))) (fun _ h9 => h9) rfl dX11_log_5 ?_
  have hPc := hP.sub (ws' := [(h1, .inr (7, [.ref h2, .ref r12, .int v3, .int v4])), (h2, .inl (g0, 58, .inl f5))]) [1, 2] rfl
  have hDc := hD.sub (ws' := [(h1, .inr (7, [.ref h2, .ref r12, .int v3, .int v4])), (h2, .inl (g0, 58, .inl f5))]) [1, 2] (by decide) rfl
  have hKc := hK.sub (tys' := [(g0, .int)]) [0] rfl
  have hFc := va_free (wc := [(h1, .inr (7, [.ref h2, .ref r12, .int v3, .int v4])), (h2, .inl (g0, 58, .inl f5))]) hD hS hA [1, 2] rfl
  refine va_calli (va_runV (As := []) (rest := [.ref h3]) ⟨hx, hb, hml, hown, hts⟩ (k_X7_day l dC dI h1 h2 r12 v3 v4 g0 f5  H.size) (cwV 0 hts g_X11_log_0 rfl rfl rfl (by decide +kernel) ⟨Nat.le_of_ble_eq_true rfl, Nat.le_of_ble_eq_true rfl⟩) ⟨fun a U g mk q => by obtain ⟨q0, q1, qP, qK, qD⟩ := q; exact ⟨q0, q1, qP, va_K.moved (u := U) (U := U.calling g mk a) (Vm.Alike.refl U.vm) qK, qD⟩, va_recv hKc hPc (ci := 7) (q0 := 0) rfl rfl, fun U hU hW => ⟨rfl, by rw [hU], by rw [hU]; exact hPc, va_K.moved hW.alike hKc, hDc.weaken (fun _ _ _ _ => trivial)⟩⟩ rfl rfl hl.1 rfl (lv_room (Nat.le_of_ble_eq_true rfl)) dX11_log_8 ⟨Nat.le_of_ble_eq_true rfl, Nat.le_of_ble_eq_true rfl⟩) hS (fun q _ h => hFc q h) hFc (fun ra1 u t H1 locs ht hvm hwra1 hB hz1 hk1 hS => ?_)
  obtain ⟨hP1, hK1, hD1⟩ := hB
  rw [ht] at hP1
  obtain ⟨hP, hD⟩ := va_join (wr := [(h0, .inr (11, [.ref r0, .ref r1, .ref r2, .ref r3, .ref r4, .ref h1, .ref h3, .ref r5, .ref r6, .ref r7, .ref r8, .ref r9, .ref r10, .ref r11, .int v0, .int v1, .long w2])), (h3, .inr (1, [.ref h4])), (h4, .inl (g1, 300, .inl f6))]) (w1 := [(h1, .inr (7, [.ref h2, .ref r12, .int v3, .int v4])), (h2, .inl (g0, 58, .inl f5))]) hP hD [1, 2] [0, 3, 4] rfl rfl (by decide) (by decide) hk1 hFc hP1 hD1
  generalize H1 = H at hP hS ⊢
  have hP := hP.sub (ws' := [(h0, .inr (11, [.ref r0, .ref r1, .ref r2, .ref r3, .ref r4, .ref h1, .ref h3, .ref r5, .ref r6, .ref r7, .ref r8, .ref r9, .ref r10, .ref r11, .int v0, .int v1, .long w2])), (h1, .inr (7, [.ref h2, .ref r12, .int v3, .int v4])), (h2, .inl (g0, 58, .inl f5)), (h3, .inr (1, [.ref h4])), (h4, .inl (g1, 300, .inl f6))]) [0, 3, 4, 1, 2] rfl
  have hD := hD.sub (ws' := [(h0, .inr (11, [.ref r0, .ref r1, .ref r2, .ref r3, .ref r4, .ref h1, .ref h3, .ref r5, .ref r6, .ref r7, .ref r8, .ref r9, .ref r10, .ref r11, .int v0, .int v1, .long w2])), (h1, .inr (7, [.ref h2, .ref r12, .int v3, .int v4])), (h2, .inl (g0, 58, .inl f5)), (h3, .inr (1, [.ref h4])), (h4, .inl (g1, 300, .inl f6))]) [0, 3, 4, 1, 2] (by decide) rfl
  have hP : va_P (dC, dI) vwCl [(h0, .inr (11, [.ref r0, .ref r1, .ref r2, .ref r3, .ref r4, .ref h1, .ref h3, .ref r5, .ref r6, .ref r7, .ref r8, .ref r9, .ref r10, .ref r11, .int v0, .int v1, .long w2])), (h1, .inr (7, [.ref h2, .ref r12, .int v3, .int v4])), (h2, .inl (g0, 58, .inl f5)), (h3, .inr (1, [.ref h4])), (h4, .inl (g1, 300, .inl f6))] H := hP
  have hD : va_D A [(h0, .inr (11, [.ref r0, .ref r1, .ref r2, .ref r3, .ref r4, .ref h1, .ref h3, .ref r5, .ref r6, .ref r7, .ref r8, .ref r9, .ref r10, .ref r11, .int v0, .int v1, .long w2])), (h1, .inr (7, [.ref h2, .ref r12, .int v3, .int v4])), (h2, .inl (g0, 58, .inl f5)), (h3, .inr (1, [.ref h4])), (h4, .inl (g1, 300, .inl f6))] := hD
  refine lv_iload_n hx hb dX11_log_11 rfl (lv_at hl 1 rfl) ?_
  refine lv_iload_n hx hb dX11_log_12 rfl (lv_at hl 2 rfl) ?_
  have hPc := hP.sub (ws' := [(h3, .inr (1, [.ref h4])), (h4, .inl (g1, 300, .inl f6))]) [3, 4] rfl
  have hDc := hD.sub (ws' := [(h3, .inr (1, [.ref h4])), (h4, .inl (g1, 300, .inl f6))]) [3, 4] (by decide) rfl
  have hKc := hK.sub (tys' := [(g1, .int)]) [1] rfl
  have hFc := va_free (wc := [(h3, .inr (1, [.ref h4])), (h4, .inl (g1, 300, .inl f6))]) hD hS hA [3, 4] rfl
  refine va_calli (va_runV (As := [.int ra1, .int v7, .int v8]) (rest := []) ⟨hx, hb, hml, hown, hts⟩ (k_X1_told l dC dI h3 h4 g1 f6 ra1 v7 v8  H.size) (cwV 3 hts g_X11_log_1 rfl rfl rfl (by decide +kernel) ⟨Nat.le_of_ble_eq_true rfl, Nat.le_of_ble_eq_true rfl⟩) ⟨fun a U g mk q => by obtain ⟨q0, q1, qP, qK, qD⟩ := q; exact ⟨q0, q1, qP, va_K.moved (u := U) (U := U.calling g mk a) (Vm.Alike.refl U.vm) qK, qD⟩, va_recv hKc hPc (ci := 1) (q0 := 0) rfl rfl, fun U hU hW => ⟨rfl, by rw [hU], by rw [hU]; exact hPc, va_K.moved hW.alike hKc, hDc.weaken (fun _ _ _ _ => trivial)⟩⟩ rfl rfl hl.1 rfl (lv_room (Nat.le_of_ble_eq_true rfl)) dX11_log_13 ⟨Nat.le_of_ble_eq_true rfl, Nat.le_of_ble_eq_true rfl⟩) hS (fun q _ h => hFc q h) hFc (fun ra2 u t H1 locs ht hvm hwra2 hB hz1 hk1 hS => ?_)
  obtain ⟨hP1, hK1, hD1⟩ := hB
  rw [ht] at hP1
  obtain ⟨hP, hD⟩ := va_join (wr := [(h0, .inr (11, [.ref r0, .ref r1, .ref r2, .ref r3, .ref r4, .ref h1, .ref h3, .ref r5, .ref r6, .ref r7, .ref r8, .ref r9, .ref r10, .ref r11, .int v0, .int v1, .long w2])), (h1, .inr (7, [.ref h2, .ref r12, .int v3, .int v4])), (h2, .inl (g0, 58, .inl f5))]) (w1 := [(h3, .inr (1, [.ref h4])), (h4, .inl (g1, 300, .inl f6))]) hP hD [3, 4] [0, 1, 2] rfl rfl (by decide) (by decide) hk1 hFc hP1 hD1
  generalize H1 = H at hP hS ⊢
  have hP : va_P (dC, dI) vwCl [(h0, .inr (11, [.ref r0, .ref r1, .ref r2, .ref r3, .ref r4, .ref h1, .ref h3, .ref r5, .ref r6, .ref r7, .ref r8, .ref r9, .ref r10, .ref r11, .int v0, .int v1, .long w2])), (h1, .inr (7, [.ref h2, .ref r12, .int v3, .int v4])), (h2, .inl (g0, 58, .inl f5)), (h3, .inr (1, [.ref h4])), (h4, .inl (g1, 300, .inl f6))] H := hP
  have hD : va_D A [(h0, .inr (11, [.ref r0, .ref r1, .ref r2, .ref r3, .ref r4, .ref h1, .ref h3, .ref r5, .ref r6, .ref r7, .ref r8, .ref r9, .ref r10, .ref r11, .int v0, .int v1, .long w2])), (h1, .inr (7, [.ref h2, .ref r12, .int v3, .int v4])), (h2, .inl (g0, 58, .inl f5)), (h3, .inr (1, [.ref h4])), (h4, .inl (g1, 300, .inl f6))] := hD
  subst hQ
  have hP9 := hP.sub (ws' := [(h0, .inr (11, [.ref r0, .ref r1, .ref r2, .ref r3, .ref r4, .ref h1, .ref h3, .ref r5, .ref r6, .ref r7, .ref r8, .ref r9, .ref r10, .ref r11, .int v0, .int v1, .long w2])), (h1, .inr (7, [.ref h2, .ref r12, .int v3, .int v4])), (h2, .inl (g0, 58, .inl f5)), (h3, .inr (1, [.ref h4])), (h4, .inl (g1, 300, .inl f6))]) [0, 1, 2, 3, 4] rfl
  have hD9 := hD.sub (ws' := [(h0, .inr (11, [.ref r0, .ref r1, .ref r2, .ref r3, .ref r4, .ref h1, .ref h3, .ref r5, .ref r6, .ref r7, .ref r8, .ref r9, .ref r10, .ref r11, .int v0, .int v1, .long w2])), (h1, .inr (7, [.ref h2, .ref r12, .int v3, .int v4])), (h2, .inl (g0, 58, .inl f5)), (h3, .inr (1, [.ref h4])), (h4, .inl (g1, 300, .inl f6))]) [0, 1, 2, 3, 4] (by decide) rfl
  have hK9 := hK.sub (tys' := []) [] rfl
  exact W.iret (v := ra2) hx hb hr (fun t ht hW => ⟨⟨ra2, (), rfl, trivial, by rw [ht]; exact hP9, va_K.moved hW.alike hK9, hD9⟩, hS.F ht⟩) hS.2.2 dX11_log_16
def q_X7_become : List Cond := .code yX7_become cX7_become 2 none :: (([.fieldLink RX7 11 "LeftArguments$Room" "cells" "[I", .methodLink RX7 52 arraycopyName, .native arraycopyName, .static arraycopyName, .initialized "java/lang/System"] : List Cond) ++ wsX70)
set_option maxHeartbeats 4000000 in
set_option maxRecDepth 100000 in
theorem k_X7_become (l : Launch) (dC : Nat → ClassId) (dI : Nat → Nat → Nat) (h0 : Nat) (h1 : Nat) (h2 : Nat) (h3 : Nat) (r0 : Nat) (v0 : Int32) (v1 : Int32) (g0 : ClassId) (f2 : Nat → Int32) (r1 : Nat) (v3 : Int32) (v4 : Int32) (g1 : ClassId) (f5 : Nat → Int32) (sz : Nat) : Met l yX7_become q_X7_become ({ frames := 1, cells := 0, slots := 0, locals := 60 }) (va_Pc [.ref h0, .ref h2] (fun U => U.heap.size = sz ∧ va_P (dC, dI) vwCl [(h0, .inr (7, [.ref h1, .ref r0, .int v0, .int v1])), (h1, .inl (g0, 58, .inl f2)), (h2, .inr (7, [.ref h3, .ref r1, .int v3, .int v4])), (h3, .inl (g1, 58, .inl f5))] U.heap ∧ va_K (dC, dI) vwCl [(g0, .int), (g1, .int)] U ∧ va_D (fun _ => True) [(h0, .inr (7, [.ref h1, .ref r0, .int v0, .int v1])), (h1, .inl (g0, 58, .inl f2)), (h2, .inr (7, [.ref h3, .ref r1, .int v3, .int v4])), (h3, .inl (g1, 58, .inl f5))])) (va_Qv (fun (_ : Unit) => True) (fun (_ : Unit) (t : State) => ∃ (o_h1 : Nat → Int32), va_P (dC, dI) vwCl [(h0, .inr (7, [.ref h1, .ref r0, .int v0, .int v1])), (h1, .inl (g0, 58, .inl o_h1)), (h2, .inr (7, [.ref h3, .ref r1, .int v3, .int v4])), (h3, .inl (g1, 58, .inl f5))] t.heap ∧ va_K (dC, dI) vwCl [] t ∧ va_D (va_A [(h0, .inr (7, [.ref h1, .ref r0, .int v0, .int v1])), (h1, .inl (g0, 58, .inl f2)), (h2, .inr (7, [.ref h3, .ref r1, .int v3, .int v4])), (h3, .inl (g1, 58, .inl f5))] sz) [(h0, .inr (7, [.ref h1, .ref r0, .int v0, .int v1])), (h1, .inl (g0, 58, .inl o_h1)), (h2, .inr (7, [.ref h3, .ref r1, .int v3, .int v4])), (h3, .inl (g1, 58, .inl f5))]) (va_A [(h0, .inr (7, [.ref h1, .ref r0, .int v0, .int v1])), (h1, .inl (g0, 58, .inl f2)), (h2, .inr (7, [.ref h3, .ref r1, .int v3, .int v4])), (h3, .inl (g1, 58, .inl f5))] sz)) 0 0 (va_A [(h0, .inr (7, [.ref h1, .ref r0, .int v0, .int v1])), (h1, .inl (g0, 58, .inl f2)), (h2, .inr (7, [.ref h3, .ref r1, .int v3, .int v4])), (h3, .inl (g1, 58, .inl f5))] sz) := by
  refine Met.ofW (cc := cX7_become) (maxL := 2) (ret := none) (by decide) rfl ?_
  intro p e s m args below meth c s₁ B hml hv
  obtain ⟨rfl, hsz, hP, hK, hD0⟩ := hv
  have hx := B.exec
  have hb := B.bytes
  have hr := B.returns
  have hts := atoms_spec (ws := q_X7_become) B.pre
  have hown : s.vm.findClass RX7 = some m.cls := findClass_of_methodNamed B.named
  have hlocks := B.notSynchronized
  subst hsz
  have hD := hD0.self (sz := s.heap.size)
  generalize hAe : va_A [(h0, .inr (7, [.ref h1, .ref r0, .int v0, .int v1])), (h1, .inl (g0, 58, .inl f2)), (h2, .inr (7, [.ref h3, .ref r1, .int v3, .int v4])), (h3, .inl (g1, 58, .inl f5))] s.heap.size = A at hD ⊢
  have hA : ∀ q : Nat, s.heap.size ≤ q → A q := fun q h => by rw [← hAe]; exact Or.inr h
  have hS : va_S A s.heap s.heap [] := va_S.rf
  generalize hQ : (MQ below _ _ s 0 0 A) = Q
  have hl := lv_entry ([.ref h0, .ref h2]) (n := 2) (Nat.le_of_ble_eq_true rfl)
  rw [lg_entry_eq]
  generalize (lg_sl ([.ref h0, .ref h2]) ++ List.replicate (2 - (lg_sl ([.ref h0, .ref h2])).length) Slot.unset).toArray = ls at hl ⊢
  have hl : lv_has ls 2 [(0, .ref h0), (1, .ref h2)] := hl
  obtain ⟨H, hH⟩ : ∃ H : Heap, H = s.heap := ⟨_, rfl⟩
  obtain ⟨locs, hlocs⟩ : ∃ y : List Loc, y = [] := ⟨_, rfl⟩
  have hS : va_S A s.heap H locs := by rw [hH, hlocs]; exact va_S.rf
  have hP : va_P (dC, dI) vwCl [(h0, .inr (7, [.ref h1, .ref r0, .int v0, .int v1])), (h1, .inl (g0, 58, .inl f2)), (h2, .inr (7, [.ref h3, .ref r1, .int v3, .int v4])), (h3, .inl (g1, 58, .inl f5))] H := by rw [hH]; exact hP
  rw [← hH, ← hlocs]
  refine lv_aload_n hx hb dX7_become_0 rfl (lv_at hl 1 rfl) ?_
  refine va_get (D := (dC, dI)) (ci := 7) (v := .ref h3) (C := RX7) (T := TX7) (N := 4) hx hb hts (fun _ h => List.mem_cons_of_mem _ (List.mem_append_right _ h)) hown hK hP 2 rfl rfl 0 (by decide) (hts (.fieldLink RX7 11 "LeftArguments$Room" "cells" "[I") (List.mem_cons_of_mem _ (List.mem_append_left _ (List.mem_of_getElem? (i := 0) rfl)))) (fun _ h9 => h9) rfl dX7_become_1 ?_
  refine lv_iconst (v := 0) hx hb dX7_become_4 (by decide) ?_
  refine lv_aload_n hx hb dX7_become_5 rfl (lv_at hl 0 rfl) ?_
  refine va_get (D := (dC, dI)) (ci := 7) (v := .ref h1) (C := RX7) (T := TX7) (N := 4) hx hb hts (fun _ h => List.mem_cons_of_mem _ (List.mem_append_right _ h)) hown hK hP 0 rfl rfl 0 (by decide) (hts (.fieldLink RX7 11 "LeftArguments$Room" "cells" "[I") (List.mem_cons_of_mem _ (List.mem_append_left _ (List.mem_of_getElem? (i := 0) rfl)))) (fun _ h9 => h9) rfl dX7_become_6 ?_
  refine lv_iconst (v := 0) hx hb dX7_become_9 (by decide) ?_
  refine lv_bipush (v := 58) hx hb dX7_become_10 (by decide) ?_
  refine va_copyi (ty := .int) hx hb (by rw [hml]; exact hl.1.symm) hown (hts (.methodLink RX7 52 arraycopyName) (List.mem_cons_of_mem _ (List.mem_append_left _ (List.mem_of_getElem? (i := 1) rfl)))) (hts (.native arraycopyName) (List.mem_cons_of_mem _ (List.mem_append_left _ (List.mem_of_getElem? (i := 2) rfl)))) (hts (.static arraycopyName) (List.mem_cons_of_mem _ (List.mem_append_left _ (List.mem_of_getElem? (i := 3) rfl)))) (hts (.initialized "java/lang/System") (List.mem_cons_of_mem _ (List.mem_append_left _ (List.mem_of_getElem? (i := 4) rfl)))) hK hP hD hS 3 1 1 0 rfl rfl rfl rfl rfl (by decide) (by decide) (by decide) (by decide) (by decide) (fun _ _ => rfl) (Nat.le_of_ble_eq_true rfl) (Nat.le_of_ble_eq_true rfl) dX7_become_12 (fun H locs hP hD hS => ?_)
  obtain ⟨fn1, efn1⟩ : ∃ g : Nat → Int32, g = va_cpy f5 f2 (Int32.toNatClampNeg 0) (Int32.toNatClampNeg 0) (Int32.toNatClampNeg 58) := ⟨_, rfl⟩
  rw [← efn1] at hP hD
  have hP : va_P (dC, dI) vwCl [(h0, .inr (7, [.ref h1, .ref r0, .int v0, .int v1])), (h1, .inl (g0, 58, .inl fn1)), (h2, .inr (7, [.ref h3, .ref r1, .int v3, .int v4])), (h3, .inl (g1, 58, .inl f5))] H := hP
  have hD : va_D A [(h0, .inr (7, [.ref h1, .ref r0, .int v0, .int v1])), (h1, .inl (g0, 58, .inl fn1)), (h2, .inr (7, [.ref h3, .ref r1, .int v3, .int v4])), (h3, .inl (g1, 58, .inl f5))] := hD
  subst hQ
  have hP9 := hP.sub (ws' := [(h0, .inr (7, [.ref h1, .ref r0, .int v0, .int v1])), (h1, .inl (g0, 58, .inl fn1)), (h2, .inr (7, [.ref h3, .ref r1, .int v3, .int v4])), (h3, .inl (g1, 58, .inl f5))]) [0, 1, 2, 3] rfl
  have hD9 := hD.sub (ws' := [(h0, .inr (7, [.ref h1, .ref r0, .int v0, .int v1])), (h1, .inl (g0, 58, .inl fn1)), (h2, .inr (7, [.ref h3, .ref r1, .int v3, .int v4])), (h3, .inl (g1, 58, .inl f5))]) [0, 1, 2, 3] (by decide) rfl
  have hK9 := hK.sub (tys' := []) [] rfl
  exact W.vret hx hb hr (fun t ht hW => ⟨⟨(), rfl, trivial, fn1, by rw [ht]; exact hP9, va_K.moved hW.alike hK9, hD9⟩, hS.F ht⟩) hS.2.2 dX7_become_15
def q_X10_isDigit : List Cond := .code yX10_isDigit cX10_isDigit 1 (some .boolean) :: (([] : List Cond))
set_option maxHeartbeats 4000000 in
set_option maxRecDepth 100000 in
theorem k_X10_isDigit (l : Launch) (dC : Nat → ClassId) (dI : Nat → Nat → Nat) (v0 : Int32) (sz : Nat) : Met l yX10_isDigit q_X10_isDigit ({ frames := 0, cells := 0, slots := 0, locals := 0 }) (va_Pc [.int v0] (fun U => U.heap.size = sz ∧ va_P (dC, dI) vwCl [] U.heap ∧ va_K (dC, dI) vwCl [] U ∧ va_D (fun _ => True) [])) (va_Qi (fun (r : Int32) (_ : Unit) => 0 ≤ r.toInt ∧ r.toInt ≤ 1) (fun (_ : Unit) (t : State) => va_P (dC, dI) vwCl [] t.heap ∧ va_K (dC, dI) vwCl [] t ∧ va_D (va_A [] sz) []) (va_A [] sz)) 0 0 (va_A [] sz) := by
  refine Met.ofW (cc := cX10_isDigit) (maxL := 1) (ret := (some .boolean)) (by decide) rfl ?_
  intro p e s m args below meth c s₁ B hml hv
  obtain ⟨rfl, hsz, hP, hK, hD0⟩ := hv
  have hx := B.exec
  have hb := B.bytes
  have hr := B.returns
  have hts := atoms_spec (ws := q_X10_isDigit) B.pre
  have hown : s.vm.findClass RX10 = some m.cls := findClass_of_methodNamed B.named
  have hlocks := B.notSynchronized
  subst hsz
  have hD := hD0.self (sz := s.heap.size)
  generalize hAe : va_A [] s.heap.size = A at hD ⊢
  have hA : ∀ q : Nat, s.heap.size ≤ q → A q := fun q h => by rw [← hAe]; exact Or.inr h
  have hS : va_S A s.heap s.heap [] := va_S.rf
  generalize hQ : (MQ below _ _ s 0 0 A) = Q
  have hl := lv_entry ([.int v0]) (n := 1) (Nat.le_of_ble_eq_true rfl)
  rw [lg_entry_eq]
  generalize (lg_sl ([.int v0]) ++ List.replicate (1 - (lg_sl ([.int v0])).length) Slot.unset).toArray = ls at hl ⊢
  have hl : lv_has ls 1 [(0, .int v0)] := hl
  obtain ⟨H, hH⟩ : ∃ H : Heap, H = s.heap := ⟨_, rfl⟩
  obtain ⟨locs, hlocs⟩ : ∃ y : List Loc, y = [] := ⟨_, rfl⟩
  have hS : va_S A s.heap H locs := by rw [hH, hlocs]; exact va_S.rf
  have hP : va_P (dC, dI) vwCl [] H := by rw [hH]; exact hP
  rw [← hH, ← hlocs]
  refine lv_iload_n hx hb dX10_isDigit_0 rfl (lv_at hl 0 rfl) ?_
  refine lv_bipush (v := 48) hx hb dX10_isDigit_1 (by decide) ?_
  have hJ2 : ∀ (x1 : Int32) (H : Heap) (locs : List Loc) (ls : Array Slot), 0 ≤ x1.toInt → x1.toInt ≤ 1 → va_P (dC, dI) vwCl [] H → va_D A [] → va_S A s.heap H locs → lv_has ls 1 [(0, .int v0)] → W p l e ({ frames := 0, cells := 0, slots := 0, locals := 0 }) s m ([.int v0] : List Value).toArray below meth c H locs 0 0 Q (F0 m 17 ls [.int x1]) := by
    intro x1 H locs ls qa_x1 qb_x1 hP hD hS hl
    subst hQ
    have hP9 := hP.sub (ws' := []) [] rfl
    have hD9 := hD.sub (ws' := []) [] (by decide) rfl
    have hK9 := hK.sub (tys' := []) [] rfl
    exact W.zret (v := x1) hx hb hr (pv_nz (by omega) (by omega)) (fun t ht hW => ⟨⟨x1, (), rfl, ⟨by first | omega | decide, by first | omega | decide⟩, by rw [ht]; exact hP9, va_K.moved hW.alike hK9, hD9⟩, hS.F ht⟩) hS.2.2 dX10_isDigit_17
  refine lv_icmp_lt (tgt := 16) hx hb dX10_isDigit_3 (by decide) (fun c3 => ?_) (fun c3 => ?_)
  · skip
    have fc3 : v0.toInt < 48 := Int32.lt_iff_toInt_lt.mp c3
    refine lv_iconst (v := 0) hx hb dX10_isDigit_16 (by decide) ?_
    exact hJ2 0 H locs ls (by first | omega | decide) (by first | omega | decide) hP hD hS (lv_sub hl [0] rfl)
  · skip
    have fc3 : ¬ (v0.toInt < 48) := fun h9 => c3 (Int32.lt_iff_toInt_lt.mpr h9)
    refine lv_iload_n hx hb dX10_isDigit_6 rfl (lv_at hl 0 rfl) ?_
    refine lv_bipush (v := 57) hx hb dX10_isDigit_7 (by decide) ?_
    refine lv_icmp_gt (tgt := 16) hx hb dX10_isDigit_9 (by decide) (fun c4 => ?_) (fun c4 => ?_)
    · skip
      have fc4 : 57 < v0.toInt := Int32.lt_iff_toInt_lt.mp c4
      refine lv_iconst (v := 0) hx hb dX10_isDigit_16 (by decide) ?_
      exact hJ2 0 H locs ls (by first | omega | decide) (by first | omega | decide) hP hD hS (lv_sub hl [0] rfl)
    · skip
      have fc4 : ¬ (57 < v0.toInt) := fun h9 => c4 (Int32.lt_iff_toInt_lt.mpr h9)
      refine lv_iconst (v := 1) hx hb dX10_isDigit_12 (by decide) ?_
      refine lv_goto (tgt := 17) hx hb dX10_isDigit_13 (by decide) ?_
      exact hJ2 1 H locs ls (by first | omega | decide) (by first | omega | decide) hP hD hS (lv_sub hl [0] rfl)
def q_X7_setOff : List Cond := .code yX7_setOff cX7_setOff 3 (some .boolean) :: (([.code yX7_of cX7_of 3 (some .int), .fieldLink RX7 11 "LeftArguments$Room" "cells" "[I", .initialized RX7, .instanceMethod yX7_of, .selects RX7 yX7_of yX7_of, .methodLink RX7 74 yX7_of, .methodLink RX7 110 Lib.Math.abs.name, .static Lib.Math.abs.name, .initialized "java/lang/Math", .code Lib.Math.abs.name Lib.Math.abs.code 1 (some .int)] : List Cond) ++ wsX70)
set_option maxRecDepth 20000 in
theorem g_X7_setOff_0 : GoodIn q_X7_setOff (wsV RX7 74 RX7 yX7_of q_X7_of) := goodIn_app (goodIn_r _ [6, 4, 5, 3] (by decide +kernel) (by decide +kernel)) (goodIn_ca (goodIn_r (.code yX7_of cX7_of 3 (some .int) :: [.fieldLink RX7 11 "LeftArguments$Room" "cells" "[I"]) [1, 2] (by decide +kernel) (by decide +kernel)) (goodIn_sub (fun _ h => List.mem_cons_of_mem _ (List.mem_append_right _ h)) gwX7))
set_option maxRecDepth 20000 in
theorem g_X7_setOff_1 : GoodIn q_X7_setOff (wsV RX7 74 RX7 yX7_of q_X7_of) := goodIn_app (goodIn_r _ [6, 4, 5, 3] (by decide +kernel) (by decide +kernel)) (goodIn_ca (goodIn_r (.code yX7_of cX7_of 3 (some .int) :: [.fieldLink RX7 11 "LeftArguments$Room" "cells" "[I"]) [1, 2] (by decide +kernel) (by decide +kernel)) (goodIn_sub (fun _ h => List.mem_cons_of_mem _ (List.mem_append_right _ h)) gwX7))
set_option maxRecDepth 20000 in
theorem g_X7_setOff_2 : GoodIn q_X7_setOff (wsV RX7 74 RX7 yX7_of q_X7_of) := goodIn_app (goodIn_r _ [6, 4, 5, 3] (by decide +kernel) (by decide +kernel)) (goodIn_ca (goodIn_r (.code yX7_of cX7_of 3 (some .int) :: [.fieldLink RX7 11 "LeftArguments$Room" "cells" "[I"]) [1, 2] (by decide +kernel) (by decide +kernel)) (goodIn_sub (fun _ h => List.mem_cons_of_mem _ (List.mem_append_right _ h)) gwX7))
set_option maxRecDepth 20000 in
theorem g_X7_setOff_3 : GoodIn q_X7_setOff (wsV RX7 74 RX7 yX7_of q_X7_of) := goodIn_app (goodIn_r _ [6, 4, 5, 3] (by decide +kernel) (by decide +kernel)) (goodIn_ca (goodIn_r (.code yX7_of cX7_of 3 (some .int) :: [.fieldLink RX7 11 "LeftArguments$Room" "cells" "[I"]) [1, 2] (by decide +kernel) (by decide +kernel)) (goodIn_sub (fun _ h => List.mem_cons_of_mem _ (List.mem_append_right _ h)) gwX7))
set_option maxRecDepth 20000 in
theorem g_X7_setOff_4 : GoodIn q_X7_setOff (wsV RX7 74 RX7 yX7_of q_X7_of) := goodIn_app (goodIn_r _ [6, 4, 5, 3] (by decide +kernel) (by decide +kernel)) (goodIn_ca (goodIn_r (.code yX7_of cX7_of 3 (some .int) :: [.fieldLink RX7 11 "LeftArguments$Room" "cells" "[I"]) [1, 2] (by decide +kernel) (by decide +kernel)) (goodIn_sub (fun _ h => List.mem_cons_of_mem _ (List.mem_append_right _ h)) gwX7))
set_option maxRecDepth 20000 in
theorem g_X7_setOff_5 : GoodIn q_X7_setOff (wsV RX7 74 RX7 yX7_of q_X7_of) := goodIn_app (goodIn_r _ [6, 4, 5, 3] (by decide +kernel) (by decide +kernel)) (goodIn_ca (goodIn_r (.code yX7_of cX7_of 3 (some .int) :: [.fieldLink RX7 11 "LeftArguments$Room" "cells" "[I"]) [1, 2] (by decide +kernel) (by decide +kernel)) (goodIn_sub (fun _ h => List.mem_cons_of_mem _ (List.mem_append_right _ h)) gwX7))
set_option maxHeartbeats 4000000 in
set_option maxRecDepth 100000 in
theorem k_X7_setOff (l : Launch) (dC : Nat → ClassId) (dI : Nat → Nat → Nat) (h0 : Nat) (h1 : Nat) (r0 : Nat) (v0 : Int32) (v1 : Int32) (g0 : ClassId) (f2 : Nat → Int32) (v3 : Int32) (v4 : Int32) (sz : Nat) : Met l yX7_setOff q_X7_setOff ({ frames := 1, cells := 0, slots := 0, locals := 22 }) (va_Pc [.ref h0, .int v3, .int v4] (fun U => U.heap.size = sz ∧ va_P (dC, dI) vwCl [(h0, .inr (7, [.ref h1, .ref r0, .int v0, .int v1])), (h1, .inl (g0, 58, .inl f2))] U.heap ∧ va_K (dC, dI) vwCl [(g0, .int)] U ∧ va_D (fun _ => True) [(h0, .inr (7, [.ref h1, .ref r0, .int v0, .int v1])), (h1, .inl (g0, 58, .inl f2))])) (va_Qi (fun (r : Int32) (_ : Unit) => 0 ≤ r.toInt ∧ r.toInt ≤ 1) (fun (_ : Unit) (t : State) => va_P (dC, dI) vwCl [(h0, .inr (7, [.ref h1, .ref r0, .int v0, .int v1])), (h1, .inl (g0, 58, .inl f2))] t.heap ∧ va_K (dC, dI) vwCl [] t ∧ va_D (va_A [(h0, .inr (7, [.ref h1, .ref r0, .int v0, .int v1])), (h1, .inl (g0, 58, .inl f2))] sz) [(h0, .inr (7, [.ref h1, .ref r0, .int v0, .int v1])), (h1, .inl (g0, 58, .inl f2))]) (va_A [(h0, .inr (7, [.ref h1, .ref r0, .int v0, .int v1])), (h1, .inl (g0, 58, .inl f2))] sz)) 0 0 (va_A [(h0, .inr (7, [.ref h1, .ref r0, .int v0, .int v1])), (h1, .inl (g0, 58, .inl f2))] sz) := by
  refine Met.ofW (cc := cX7_setOff) (maxL := 3) (ret := (some .boolean)) (by decide) rfl ?_
  intro p e s m args below meth c s₁ B hml hv
  obtain ⟨rfl, hsz, hP, hK, hD0⟩ := hv
  have hx := B.exec
  have hb := B.bytes
  have hr := B.returns
  have hts := atoms_spec (ws := q_X7_setOff) B.pre
  have hown : s.vm.findClass RX7 = some m.cls := findClass_of_methodNamed B.named
  have hlocks := B.notSynchronized
  subst hsz
  have hD := hD0.self (sz := s.heap.size)
  generalize hAe : va_A [(h0, .inr (7, [.ref h1, .ref r0, .int v0, .int v1])), (h1, .inl (g0, 58, .inl f2))] s.heap.size = A at hD ⊢
  have hA : ∀ q : Nat, s.heap.size ≤ q → A q := fun q h => by rw [← hAe]; exact Or.inr h
  have hS : va_S A s.heap s.heap [] := va_S.rf
  generalize hQ : (MQ below _ _ s 0 0 A) = Q
  have hl := lv_entry ([.ref h0, .int v3, .int v4]) (n := 3) (Nat.le_of_ble_eq_true rfl)
  rw [lg_entry_eq]
  generalize (lg_sl ([.ref h0, .int v3, .int v4]) ++ List.replicate (3 - (lg_sl ([.ref h0, .int v3, .int v4])).length) Slot.unset).toArray = ls at hl ⊢
  have hl : lv_has ls 3 [(0, .ref h0), (1, .int v3), (2, .int v4)] := hl
  obtain ⟨H, hH⟩ : ∃ H : Heap, H = s.heap := ⟨_, rfl⟩
  obtain ⟨locs, hlocs⟩ : ∃ y : List Loc, y = [] := ⟨_, rfl⟩
  have hS : va_S A s.heap H locs := by rw [hH, hlocs]; exact va_S.rf
  have hP : va_P (dC, dI) vwCl [(h0, .inr (7, [.ref h1, .ref r0, .int v0, .int v1])), (h1, .inl (g0, 58, .inl f2))] H := by rw [hH]; exact hP
  rw [← hH, ← hlocs]
  refine lv_aload_n hx hb dX7_setOff_0 rfl (lv_at hl 0 rfl) ?_
  refine lv_iload_n hx hb dX7_setOff_1 rfl (lv_at hl 1 rfl) ?_
  refine lv_iconst (v := 0) hx hb dX7_setOff_2 (by decide) ?_
  have hPc := hP.sub (ws' := [(h0, .inr (7, [.ref h1, .ref r0, .int v0, .int v1])), (h1, .inl (g0, 58, .inl f2))]) [0, 1] rfl
  have hDc := hD.sub (ws' := [(h0, .inr (7, [.ref h1, .ref r0, .int v0, .int v1])), (h1, .inl (g0, 58, .inl f2))]) [0, 1] (by decide) rfl
  have hKc := hK.sub (tys' := [(g0, .int)]) [0] rfl
  have hFc := va_free (wc := [(h0, .inr (7, [.ref h1, .ref r0, .int v0, .int v1])), (h1, .inl (g0, 58, .inl f2))]) hD hS hA [0, 1] rfl
  refine va_calli (va_runV (As := [.int v3, .int 0]) (rest := []) ⟨hx, hb, hml, hown, hts⟩ (k_X7_of l dC dI h0 h1 r0 v0 v1 g0 f2 v3 0  H.size) (cwV 2 hts g_X7_setOff_0 rfl rfl rfl (by decide +kernel) ⟨Nat.le_of_ble_eq_true rfl, Nat.le_of_ble_eq_true rfl⟩) ⟨fun a U g mk q => by obtain ⟨q0, q1, qP, qK, qD⟩ := q; exact ⟨q0, q1, qP, va_K.moved (u := U) (U := U.calling g mk a) (Vm.Alike.refl U.vm) qK, qD⟩, va_recv hKc hPc (ci := 7) (q0 := 0) rfl rfl, fun U hU hW => ⟨rfl, by rw [hU], by rw [hU]; exact hPc, va_K.moved hW.alike hKc, hDc.weaken (fun _ _ _ _ => trivial)⟩⟩ rfl rfl hl.1 rfl (lv_room (Nat.le_of_ble_eq_true rfl)) dX7_setOff_3 ⟨Nat.le_of_ble_eq_true rfl, Nat.le_of_ble_eq_true rfl⟩) hS (fun q _ h => hFc q h) hFc (fun ra1 u t H1 locs ht hvm hwra1 hB hz1 hk1 hS => ?_)
  obtain ⟨hP1, hK1, hD1⟩ := hB
  rw [ht] at hP1
  obtain ⟨hP, hD⟩ := va_join (wr := []) (w1 := [(h0, .inr (7, [.ref h1, .ref r0, .int v0, .int v1])), (h1, .inl (g0, 58, .inl f2))]) hP hD [0, 1] [] rfl rfl (by decide) (by decide) hk1 hFc hP1 hD1
  generalize H1 = H at hP hS ⊢
  have hP : va_P (dC, dI) vwCl [(h0, .inr (7, [.ref h1, .ref r0, .int v0, .int v1])), (h1, .inl (g0, 58, .inl f2))] H := hP
  have hD : va_D A [(h0, .inr (7, [.ref h1, .ref r0, .int v0, .int v1])), (h1, .inl (g0, 58, .inl f2))] := hD
  refine lv_aload_n hx hb dX7_setOff_6 rfl (lv_at hl 0 rfl) ?_
  refine lv_iload_n hx hb dX7_setOff_7 rfl (lv_at hl 2 rfl) ?_
  refine lv_iconst (v := 0) hx hb dX7_setOff_8 (by decide) ?_
  have hPc := hP.sub (ws' := [(h0, .inr (7, [.ref h1, .ref r0, .int v0, .int v1])), (h1, .inl (g0, 58, .inl f2))]) [0, 1] rfl
  have hDc := hD.sub (ws' := [(h0, .inr (7, [.ref h1, .ref r0, .int v0, .int v1])), (h1, .inl (g0, 58, .inl f2))]) [0, 1] (by decide) rfl
  have hKc := hK.sub (tys' := [(g0, .int)]) [0] rfl
  have hFc := va_free (wc := [(h0, .inr (7, [.ref h1, .ref r0, .int v0, .int v1])), (h1, .inl (g0, 58, .inl f2))]) hD hS hA [0, 1] rfl
  refine va_calli (va_runV (As := [.int v4, .int 0]) (rest := [.int ra1]) ⟨hx, hb, hml, hown, hts⟩ (k_X7_of l dC dI h0 h1 r0 v0 v1 g0 f2 v4 0  H.size) (cwV 2 hts g_X7_setOff_1 rfl rfl rfl (by decide +kernel) ⟨Nat.le_of_ble_eq_true rfl, Nat.le_of_ble_eq_true rfl⟩) ⟨fun a U g mk q => by obtain ⟨q0, q1, qP, qK, qD⟩ := q; exact ⟨q0, q1, qP, va_K.moved (u := U) (U := U.calling g mk a) (Vm.Alike.refl U.vm) qK, qD⟩, va_recv hKc hPc (ci := 7) (q0 := 0) rfl rfl, fun U hU hW => ⟨rfl, by rw [hU], by rw [hU]; exact hPc, va_K.moved hW.alike hKc, hDc.weaken (fun _ _ _ _ => trivial)⟩⟩ rfl rfl hl.1 rfl (lv_room (Nat.le_of_ble_eq_true rfl)) dX7_setOff_9 ⟨Nat.le_of_ble_eq_true rfl, Nat.le_of_ble_eq_true rfl⟩) hS (fun q _ h => hFc q h) hFc (fun ra2 u t H1 locs ht hvm hwra2 hB hz1 hk1 hS => ?_)
  obtain ⟨hP1, hK1, hD1⟩ := hB
  rw [ht] at hP1
  obtain ⟨hP, hD⟩ := va_join (wr := []) (w1 := [(h0, .inr (7, [.ref h1, .ref r0, .int v0, .int v1])), (h1, .inl (g0, 58, .inl f2))]) hP hD [0, 1] [] rfl rfl (by decide) (by decide) hk1 hFc hP1 hD1
  generalize H1 = H at hP hS ⊢
  have hP : va_P (dC, dI) vwCl [(h0, .inr (7, [.ref h1, .ref r0, .int v0, .int v1])), (h1, .inl (g0, 58, .inl f2))] H := hP
  have hD : va_D A [(h0, .inr (7, [.ref h1, .ref r0, .int v0, .int v1])), (h1, .inl (g0, 58, .inl f2))] := hD
  refine lv_isub hx hb dX7_setOff_12 ?_
  refine lv_topi (fun t3 et3 => ?_)
  refine va_mabs hx hb (by rw [hml]; exact hl.1.symm) hown (hts (.methodLink RX7 110 Lib.Math.abs.name) (List.mem_cons_of_mem _ (List.mem_append_left _ (List.mem_of_getElem? (i := 6) rfl)))) (hts (.static Lib.Math.abs.name) (List.mem_cons_of_mem _ (List.mem_append_left _ (List.mem_of_getElem? (i := 7) rfl)))) (hts (.initialized "java/lang/Math") (List.mem_cons_of_mem _ (List.mem_append_left _ (List.mem_of_getElem? (i := 8) rfl)))) (hts (.code Lib.Math.abs.name Lib.Math.abs.code 1 (some .int)) (List.mem_cons_of_mem _ (List.mem_append_left _ (List.mem_of_getElem? (i := 9) rfl)))) (Nat.le_of_ble_eq_true rfl) (Nat.le_of_ble_eq_true rfl) (Nat.le_of_ble_eq_true rfl) (Nat.le_of_ble_eq_true rfl) dX7_setOff_13 ?_
  refine lv_topi (fun t4 et4 => ?_)
  refine lv_iconst (v := 2) hx hb dX7_setOff_16 (by decide) ?_
  have hJ6 : ∀ (x5 : Int32) (H : Heap) (locs : List Loc) (ls : Array Slot), 0 ≤ x5.toInt → x5.toInt ≤ 1 → va_P (dC, dI) vwCl [(h0, .inr (7, [.ref h1, .ref r0, .int v0, .int v1])), (h1, .inl (g0, 58, .inl f2))] H → va_D A [(h0, .inr (7, [.ref h1, .ref r0, .int v0, .int v1])), (h1, .inl (g0, 58, .inl f2))] → va_S A s.heap H locs → lv_has ls 3 [(0, .ref h0), (1, .int v3), (2, .int v4)] → W p l e ({ frames := 1, cells := 0, slots := 0, locals := 22 }) s m ([.ref h0, .int v3, .int v4] : List Value).toArray below meth c H locs 0 0 Q (F0 m 54 ls [.int x5]) := by
    intro x5 H locs ls qa_x5 qb_x5 hP hD hS hl
    subst hQ
    have hP9 := hP.sub (ws' := [(h0, .inr (7, [.ref h1, .ref r0, .int v0, .int v1])), (h1, .inl (g0, 58, .inl f2))]) [0, 1] rfl
    have hD9 := hD.sub (ws' := [(h0, .inr (7, [.ref h1, .ref r0, .int v0, .int v1])), (h1, .inl (g0, 58, .inl f2))]) [0, 1] (by decide) rfl
    have hK9 := hK.sub (tys' := []) [] rfl
    exact W.zret (v := x5) hx hb hr (pv_nz (by omega) (by omega)) (fun t ht hW => ⟨⟨x5, (), rfl, ⟨by first | omega | decide, by first | omega | decide⟩, by rw [ht]; exact hP9, va_K.moved hW.alike hK9, hD9⟩, hS.F ht⟩) hS.2.2 dX7_setOff_54
  refine lv_icmp_le (tgt := 49) hx hb dX7_setOff_17 (by decide) (fun c7 => ?_) (fun c7 => ?_)
  · skip
    have fc7 : t4.toInt ≤ 2 := Int32.le_iff_toInt_le.mp c7
    refine lv_iconst (v := 1) hx hb dX7_setOff_49 (by decide) ?_
    refine lv_goto (tgt := 54) hx hb dX7_setOff_50 (by decide) ?_
    exact hJ6 1 H locs ls (by first | omega | decide) (by first | omega | decide) hP hD hS (lv_sub hl [0, 1, 2] rfl)
  · skip
    have fc7 : ¬ (t4.toInt ≤ 2) := fun h9 => c7 (Int32.le_iff_toInt_le.mpr h9)
    refine lv_aload_n hx hb dX7_setOff_20 rfl (lv_at hl 0 rfl) ?_
    refine lv_iload_n hx hb dX7_setOff_21 rfl (lv_at hl 1 rfl) ?_
    refine lv_iconst (v := 1) hx hb dX7_setOff_22 (by decide) ?_
    have hPc := hP.sub (ws' := [(h0, .inr (7, [.ref h1, .ref r0, .int v0, .int v1])), (h1, .inl (g0, 58, .inl f2))]) [0, 1] rfl
    have hDc := hD.sub (ws' := [(h0, .inr (7, [.ref h1, .ref r0, .int v0, .int v1])), (h1, .inl (g0, 58, .inl f2))]) [0, 1] (by decide) rfl
    have hKc := hK.sub (tys' := [(g0, .int)]) [0] rfl
    have hFc := va_free (wc := [(h0, .inr (7, [.ref h1, .ref r0, .int v0, .int v1])), (h1, .inl (g0, 58, .inl f2))]) hD hS hA [0, 1] rfl
    refine va_calli (va_runV (As := [.int v3, .int 1]) (rest := []) ⟨hx, hb, hml, hown, hts⟩ (k_X7_of l dC dI h0 h1 r0 v0 v1 g0 f2 v3 1  H.size) (cwV 2 hts g_X7_setOff_2 rfl rfl rfl (by decide +kernel) ⟨Nat.le_of_ble_eq_true rfl, Nat.le_of_ble_eq_true rfl⟩) ⟨fun a U g mk q => by obtain ⟨q0, q1, qP, qK, qD⟩ := q; exact ⟨q0, q1, qP, va_K.moved (u := U) (U := U.calling g mk a) (Vm.Alike.refl U.vm) qK, qD⟩, va_recv hKc hPc (ci := 7) (q0 := 0) rfl rfl, fun U hU hW => ⟨rfl, by rw [hU], by rw [hU]; exact hPc, va_K.moved hW.alike hKc, hDc.weaken (fun _ _ _ _ => trivial)⟩⟩ rfl rfl hl.1 rfl (lv_room (Nat.le_of_ble_eq_true rfl)) dX7_setOff_23 ⟨Nat.le_of_ble_eq_true rfl, Nat.le_of_ble_eq_true rfl⟩) hS (fun q _ h => hFc q h) hFc (fun ra8 u t H1 locs ht hvm hwra8 hB hz1 hk1 hS => ?_)
    obtain ⟨hP1, hK1, hD1⟩ := hB
    rw [ht] at hP1
    obtain ⟨hP, hD⟩ := va_join (wr := []) (w1 := [(h0, .inr (7, [.ref h1, .ref r0, .int v0, .int v1])), (h1, .inl (g0, 58, .inl f2))]) hP hD [0, 1] [] rfl rfl (by decide) (by decide) hk1 hFc hP1 hD1
    generalize H1 = H at hP hS ⊢
    have hP : va_P (dC, dI) vwCl [(h0, .inr (7, [.ref h1, .ref r0, .int v0, .int v1])), (h1, .inl (g0, 58, .inl f2))] H := hP
    have hD : va_D A [(h0, .inr (7, [.ref h1, .ref r0, .int v0, .int v1])), (h1, .inl (g0, 58, .inl f2))] := hD
    refine lv_aload_n hx hb dX7_setOff_26 rfl (lv_at hl 0 rfl) ?_
    refine lv_iload_n hx hb dX7_setOff_27 rfl (lv_at hl 1 rfl) ?_
    refine lv_iconst (v := 2) hx hb dX7_setOff_28 (by decide) ?_
    have hPc := hP.sub (ws' := [(h0, .inr (7, [.ref h1, .ref r0, .int v0, .int v1])), (h1, .inl (g0, 58, .inl f2))]) [0, 1] rfl
    have hDc := hD.sub (ws' := [(h0, .inr (7, [.ref h1, .ref r0, .int v0, .int v1])), (h1, .inl (g0, 58, .inl f2))]) [0, 1] (by decide) rfl
    have hKc := hK.sub (tys' := [(g0, .int)]) [0] rfl
    have hFc := va_free (wc := [(h0, .inr (7, [.ref h1, .ref r0, .int v0, .int v1])), (h1, .inl (g0, 58, .inl f2))]) hD hS hA [0, 1] rfl
    refine va_calli (va_runV (As := [.int v3, .int 2]) (rest := [.int ra8]) ⟨hx, hb, hml, hown, hts⟩ (k_X7_of l dC dI h0 h1 r0 v0 v1 g0 f2 v3 2  H.size) (cwV 2 hts g_X7_setOff_3 rfl rfl rfl (by decide +kernel) ⟨Nat.le_of_ble_eq_true rfl, Nat.le_of_ble_eq_true rfl⟩) ⟨fun a U g mk q => by obtain ⟨q0, q1, qP, qK, qD⟩ := q; exact ⟨q0, q1, qP, va_K.moved (u := U) (U := U.calling g mk a) (Vm.Alike.refl U.vm) qK, qD⟩, va_recv hKc hPc (ci := 7) (q0 := 0) rfl rfl, fun U hU hW => ⟨rfl, by rw [hU], by rw [hU]; exact hPc, va_K.moved hW.alike hKc, hDc.weaken (fun _ _ _ _ => trivial)⟩⟩ rfl rfl hl.1 rfl (lv_room (Nat.le_of_ble_eq_true rfl)) dX7_setOff_29 ⟨Nat.le_of_ble_eq_true rfl, Nat.le_of_ble_eq_true rfl⟩) hS (fun q _ h => hFc q h) hFc (fun ra9 u t H1 locs ht hvm hwra9 hB hz1 hk1 hS => ?_)
    obtain ⟨hP1, hK1, hD1⟩ := hB
    rw [ht] at hP1
    obtain ⟨hP, hD⟩ := va_join (wr := []) (w1 := [(h0, .inr (7, [.ref h1, .ref r0, .int v0, .int v1])), (h1, .inl (g0, 58, .inl f2))]) hP hD [0, 1] [] rfl rfl (by decide) (by decide) hk1 hFc hP1 hD1
    generalize H1 = H at hP hS ⊢
    have hP : va_P (dC, dI) vwCl [(h0, .inr (7, [.ref h1, .ref r0, .int v0, .int v1])), (h1, .inl (g0, 58, .inl f2))] H := hP
    have hD : va_D A [(h0, .inr (7, [.ref h1, .ref r0, .int v0, .int v1])), (h1, .inl (g0, 58, .inl f2))] := hD
    refine lv_iadd hx hb dX7_setOff_32 ?_
    refine lv_topi (fun t10 et10 => ?_)
    refine lv_aload_n hx hb dX7_setOff_33 rfl (lv_at hl 0 rfl) ?_
    refine lv_iload_n hx hb dX7_setOff_34 rfl (lv_at hl 2 rfl) ?_
    refine lv_iconst (v := 1) hx hb dX7_setOff_35 (by decide) ?_
    have hPc := hP.sub (ws' := [(h0, .inr (7, [.ref h1, .ref r0, .int v0, .int v1])), (h1, .inl (g0, 58, .inl f2))]) [0, 1] rfl
    have hDc := hD.sub (ws' := [(h0, .inr (7, [.ref h1, .ref r0, .int v0, .int v1])), (h1, .inl (g0, 58, .inl f2))]) [0, 1] (by decide) rfl
    have hKc := hK.sub (tys' := [(g0, .int)]) [0] rfl
    have hFc := va_free (wc := [(h0, .inr (7, [.ref h1, .ref r0, .int v0, .int v1])), (h1, .inl (g0, 58, .inl f2))]) hD hS hA [0, 1] rfl
    refine va_calli (va_runV (As := [.int v4, .int 1]) (rest := [.int t10]) ⟨hx, hb, hml, hown, hts⟩ (k_X7_of l dC dI h0 h1 r0 v0 v1 g0 f2 v4 1  H.size) (cwV 2 hts g_X7_setOff_4 rfl rfl rfl (by decide +kernel) ⟨Nat.le_of_ble_eq_true rfl, Nat.le_of_ble_eq_true rfl⟩) ⟨fun a U g mk q => by obtain ⟨q0, q1, qP, qK, qD⟩ := q; exact ⟨q0, q1, qP, va_K.moved (u := U) (U := U.calling g mk a) (Vm.Alike.refl U.vm) qK, qD⟩, va_recv hKc hPc (ci := 7) (q0 := 0) rfl rfl, fun U hU hW => ⟨rfl, by rw [hU], by rw [hU]; exact hPc, va_K.moved hW.alike hKc, hDc.weaken (fun _ _ _ _ => trivial)⟩⟩ rfl rfl hl.1 rfl (lv_room (Nat.le_of_ble_eq_true rfl)) dX7_setOff_36 ⟨Nat.le_of_ble_eq_true rfl, Nat.le_of_ble_eq_true rfl⟩) hS (fun q _ h => hFc q h) hFc (fun ra11 u t H1 locs ht hvm hwra11 hB hz1 hk1 hS => ?_)
    obtain ⟨hP1, hK1, hD1⟩ := hB
    rw [ht] at hP1
    obtain ⟨hP, hD⟩ := va_join (wr := []) (w1 := [(h0, .inr (7, [.ref h1, .ref r0, .int v0, .int v1])), (h1, .inl (g0, 58, .inl f2))]) hP hD [0, 1] [] rfl rfl (by decide) (by decide) hk1 hFc hP1 hD1
    generalize H1 = H at hP hS ⊢
    have hP : va_P (dC, dI) vwCl [(h0, .inr (7, [.ref h1, .ref r0, .int v0, .int v1])), (h1, .inl (g0, 58, .inl f2))] H := hP
    have hD : va_D A [(h0, .inr (7, [.ref h1, .ref r0, .int v0, .int v1])), (h1, .inl (g0, 58, .inl f2))] := hD
    refine lv_aload_n hx hb dX7_setOff_39 rfl (lv_at hl 0 rfl) ?_
    refine lv_iload_n hx hb dX7_setOff_40 rfl (lv_at hl 2 rfl) ?_
    refine lv_iconst (v := 2) hx hb dX7_setOff_41 (by decide) ?_
    have hPc := hP.sub (ws' := [(h0, .inr (7, [.ref h1, .ref r0, .int v0, .int v1])), (h1, .inl (g0, 58, .inl f2))]) [0, 1] rfl
    have hDc := hD.sub (ws' := [(h0, .inr (7, [.ref h1, .ref r0, .int v0, .int v1])), (h1, .inl (g0, 58, .inl f2))]) [0, 1] (by decide) rfl
    have hKc := hK.sub (tys' := [(g0, .int)]) [0] rfl
    have hFc := va_free (wc := [(h0, .inr (7, [.ref h1, .ref r0, .int v0, .int v1])), (h1, .inl (g0, 58, .inl f2))]) hD hS hA [0, 1] rfl
    refine va_calli (va_runV (As := [.int v4, .int 2]) (rest := [.int ra11, .int t10]) ⟨hx, hb, hml, hown, hts⟩ (k_X7_of l dC dI h0 h1 r0 v0 v1 g0 f2 v4 2  H.size) (cwV 2 hts g_X7_setOff_5 rfl rfl rfl (by decide +kernel) ⟨Nat.le_of_ble_eq_true rfl, Nat.le_of_ble_eq_true rfl⟩) ⟨fun a U g mk q => by obtain ⟨q0, q1, qP, qK, qD⟩ := q; exact ⟨q0, q1, qP, va_K.moved (u := U) (U := U.calling g mk a) (Vm.Alike.refl U.vm) qK, qD⟩, va_recv hKc hPc (ci := 7) (q0 := 0) rfl rfl, fun U hU hW => ⟨rfl, by rw [hU], by rw [hU]; exact hPc, va_K.moved hW.alike hKc, hDc.weaken (fun _ _ _ _ => trivial)⟩⟩ rfl rfl hl.1 rfl (lv_room (Nat.le_of_ble_eq_true rfl)) dX7_setOff_42 ⟨Nat.le_of_ble_eq_true rfl, Nat.le_of_ble_eq_true rfl⟩) hS (fun q _ h => hFc q h) hFc (fun ra12 u t H1 locs ht hvm hwra12 hB hz1 hk1 hS => ?_)
    obtain ⟨hP1, hK1, hD1⟩ := hB
    rw [ht] at hP1
    obtain ⟨hP, hD⟩ := va_join (wr := []) (w1 := [(h0, .inr (7, [.ref h1, .ref r0, .int v0, .int v1])), (h1, .inl (g0, 58, .inl f2))]) hP hD [0, 1] [] rfl rfl (by decide) (by decide) hk1 hFc hP1 hD1
    generalize H1 = H at hP hS ⊢
    have hP : va_P (dC, dI) vwCl [(h0, .inr (7, [.ref h1, .ref r0, .int v0, .int v1])), (h1, .inl (g0, 58, .inl f2))] H := hP
    have hD : va_D A [(h0, .inr (7, [.ref h1, .ref r0, .int v0, .int v1])), (h1, .inl (g0, 58, .inl f2))] := hD
    refine lv_iadd hx hb dX7_setOff_45 ?_
    refine lv_topi (fun t13 et13 => ?_)
    refine lv_icmp_ne (tgt := 53) hx hb dX7_setOff_46 (by decide) (fun c14 => ?_) (fun c14 => ?_)
    · skip
      have fc14 : ¬ (t10.toInt = t13.toInt) := fun h9 => c14 (Int32.toInt_inj.mp h9)
      have r1c14 := Int32.toInt_lt t10
      have r2c14 := Int32.toInt_lt t13
      have r3c14 := Int32.le_toInt t10
      have r4c14 := Int32.le_toInt t13
      refine lv_iconst (v := 0) hx hb dX7_setOff_53 (by decide) ?_
      exact hJ6 0 H locs ls (by first | omega | decide) (by first | omega | decide) hP hD hS (lv_sub hl [0, 1, 2] rfl)
    · skip
      have fc14 : t10.toInt = t13.toInt := congrArg Int32.toInt c14
      have r1c14 := Int32.toInt_lt t10
      have r2c14 := Int32.toInt_lt t13
      have r3c14 := Int32.le_toInt t10
      have r4c14 := Int32.le_toInt t13
      refine lv_iconst (v := 1) hx hb dX7_setOff_49 (by decide) ?_
      refine lv_goto (tgt := 54) hx hb dX7_setOff_50 (by decide) ?_
      exact hJ6 1 H locs ls (by first | omega | decide) (by first | omega | decide) hP hD hS (lv_sub hl [0, 1, 2] rfl)
def q_X7_circleOf : List Cond := .code yX7_circleOf cX7_circleOf 4 (some .int) :: (([.code yX7_has cX7_has 2 (some .boolean), .fieldLink RX7 11 "LeftArguments$Room" "cells" "[I", .initialized RX7, .instanceMethod yX7_has, .selects RX7 yX7_has yX7_has, .methodLink RX7 70 yX7_has, .code yX7_setOff cX7_setOff 3 (some .boolean), .code yX7_of cX7_of 3 (some .int), .instanceMethod yX7_of, .selects RX7 yX7_of yX7_of, .methodLink RX7 74 yX7_of, .methodLink RX7 110 Lib.Math.abs.name, .static Lib.Math.abs.name, .initialized "java/lang/Math", .code Lib.Math.abs.name Lib.Math.abs.code 1 (some .int), .instanceMethod yX7_setOff, .selects RX7 yX7_setOff yX7_setOff, .methodLink RX7 113 yX7_setOff] : List Cond) ++ wsX70)
set_option maxRecDepth 20000 in
theorem g_X7_circleOf_0 : GoodIn q_X7_circleOf (wsV RX7 70 RX7 yX7_has q_X7_has) := goodIn_app (goodIn_r _ [6, 4, 5, 3] (by decide +kernel) (by decide +kernel)) (goodIn_ca (goodIn_r (.code yX7_has cX7_has 2 (some .boolean) :: [.fieldLink RX7 11 "LeftArguments$Room" "cells" "[I"]) [1, 2] (by decide +kernel) (by decide +kernel)) (goodIn_sub (fun _ h => List.mem_cons_of_mem _ (List.mem_append_right _ h)) gwX7))
set_option maxRecDepth 20000 in
theorem g_X7_circleOf_1 : GoodIn q_X7_circleOf (wsV RX7 113 RX7 yX7_setOff q_X7_setOff) := goodIn_app (goodIn_r _ [18, 16, 17, 3] (by decide +kernel) (by decide +kernel)) (goodIn_ca (goodIn_r (.code yX7_setOff cX7_setOff 3 (some .boolean) :: [.code yX7_of cX7_of 3 (some .int), .fieldLink RX7 11 "LeftArguments$Room" "cells" "[I", .initialized RX7, .instanceMethod yX7_of, .selects RX7 yX7_of yX7_of, .methodLink RX7 74 yX7_of, .methodLink RX7 110 Lib.Math.abs.name, .static Lib.Math.abs.name, .initialized "java/lang/Math", .code Lib.Math.abs.name Lib.Math.abs.code 1 (some .int)]) [7, 8, 2, 3, 9, 10, 11, 12, 13, 14, 15] (by decide +kernel) (by decide +kernel)) (goodIn_sub (fun _ h => List.mem_cons_of_mem _ (List.mem_append_right _ h)) gwX7))
set_option maxHeartbeats 4000000 in
set_option maxRecDepth 100000 in
theorem k_X7_circleOf (l : Launch) (dC : Nat → ClassId) (dI : Nat → Nat → Nat) (h0 : Nat) (h1 : Nat) (r0 : Nat) (v0 : Int32) (v1 : Int32) (g0 : ClassId) (f2 : Nat → Int32) (v3 : Int32) (sz : Nat) : Met l yX7_circleOf q_X7_circleOf ({ frames := 2, cells := 0, slots := 0, locals := 44 }) (va_Pc [.ref h0, .int v3] (fun U => U.heap.size = sz ∧ va_P (dC, dI) vwCl [(h0, .inr (7, [.ref h1, .ref r0, .int v0, .int v1])), (h1, .inl (g0, 58, .inl f2))] U.heap ∧ va_K (dC, dI) vwCl [(g0, .int)] U ∧ va_D (fun _ => True) [(h0, .inr (7, [.ref h1, .ref r0, .int v0, .int v1])), (h1, .inl (g0, 58, .inl f2))])) (va_Qi (fun (r : Int32) (_ : Unit) => True) (fun (_ : Unit) (t : State) => va_P (dC, dI) vwCl [(h0, .inr (7, [.ref h1, .ref r0, .int v0, .int v1])), (h1, .inl (g0, 58, .inl f2))] t.heap ∧ va_K (dC, dI) vwCl [] t ∧ va_D (va_A [(h0, .inr (7, [.ref h1, .ref r0, .int v0, .int v1])), (h1, .inl (g0, 58, .inl f2))] sz) [(h0, .inr (7, [.ref h1, .ref r0, .int v0, .int v1])), (h1, .inl (g0, 58, .inl f2))]) (va_A [(h0, .inr (7, [.ref h1, .ref r0, .int v0, .int v1])), (h1, .inl (g0, 58, .inl f2))] sz)) 0 0 (va_A [(h0, .inr (7, [.ref h1, .ref r0, .int v0, .int v1])), (h1, .inl (g0, 58, .inl f2))] sz) := by
  refine Met.ofW (cc := cX7_circleOf) (maxL := 4) (ret := (some .int)) (by decide) rfl ?_
  intro p e s m args below meth c s₁ B hml hv
  obtain ⟨rfl, hsz, hP, hK, hD0⟩ := hv
  have hx := B.exec
  have hb := B.bytes
  have hr := B.returns
  have hts := atoms_spec (ws := q_X7_circleOf) B.pre
  have hown : s.vm.findClass RX7 = some m.cls := findClass_of_methodNamed B.named
  have hlocks := B.notSynchronized
  subst hsz
  have hD := hD0.self (sz := s.heap.size)
  generalize hAe : va_A [(h0, .inr (7, [.ref h1, .ref r0, .int v0, .int v1])), (h1, .inl (g0, 58, .inl f2))] s.heap.size = A at hD ⊢
  have hA : ∀ q : Nat, s.heap.size ≤ q → A q := fun q h => by rw [← hAe]; exact Or.inr h
  have hS : va_S A s.heap s.heap [] := va_S.rf
  generalize hQ : (MQ below _ _ s 0 0 A) = Q
  have hl := lv_entry ([.ref h0, .int v3]) (n := 4) (Nat.le_of_ble_eq_true rfl)
  rw [lg_entry_eq]
  generalize (lg_sl ([.ref h0, .int v3]) ++ List.replicate (4 - (lg_sl ([.ref h0, .int v3])).length) Slot.unset).toArray = ls at hl ⊢
  have hl : lv_has ls 4 [(0, .ref h0), (1, .int v3)] := hl
  obtain ⟨H, hH⟩ : ∃ H : Heap, H = s.heap := ⟨_, rfl⟩
  obtain ⟨locs, hlocs⟩ : ∃ y : List Loc, y = [] := ⟨_, rfl⟩
  have hS : va_S A s.heap H locs := by rw [hH, hlocs]; exact va_S.rf
  have hP : va_P (dC, dI) vwCl [(h0, .inr (7, [.ref h1, .ref r0, .int v0, .int v1])), (h1, .inl (g0, 58, .inl f2))] H := by rw [hH]; exact hP
  rw [← hH, ← hlocs]
  refine lv_iconst (v := 0) hx hb dX7_circleOf_0 (by decide) ?_
  refine lv_istore_n (lv' := [(2, .int 0), (0, .ref h0), (1, .int v3)]) hx hb dX7_circleOf_1 rfl hl (by decide) rfl (fun ls hl => ?_)
  refine lv_iconst (v := 0) hx hb dX7_circleOf_2 (by decide) ?_
  refine lv_istore_n (lv' := [(3, .int 0), (2, .int 0), (0, .ref h0), (1, .int v3)]) hx hb dX7_circleOf_3 rfl hl (by decide) rfl (fun ls hl => ?_)
  have hL11 : ∀ (n9 : Nat), ∀ (x7 : Int32) (x8 : Int32) (H : Heap) (locs : List Loc) (ls : Array Slot), 0 ≤ x7.toInt → x7.toInt ≤ 8 → (8 - x7.toInt).toNat < n9 → va_P (dC, dI) vwCl [(h0, .inr (7, [.ref h1, .ref r0, .int v0, .int v1])), (h1, .inl (g0, 58, .inl f2))] H → va_D A [(h0, .inr (7, [.ref h1, .ref r0, .int v0, .int v1])), (h1, .inl (g0, 58, .inl f2))] → va_S A s.heap H locs → lv_has ls 4 [(3, .int x7), (2, .int x8), (0, .ref h0), (1, .int v3)] → W p l e ({ frames := 2, cells := 0, slots := 0, locals := 44 }) s m ([.ref h0, .int v3] : List Value).toArray below meth c H locs 0 0 Q (F0 m 4 ls []) := by
    intro n9
    induction n9 with
    | zero => intro x7 x8 H locs ls qa_x7 qb_x7 hm9 hP hD hS hl; exact absurd hm9 (Nat.not_lt_zero _)
    | succ n9 ih =>
      intro x7 x8 H locs ls qa_x7 qb_x7 hm9 hP hD hS hl
      refine lv_iload_n hx hb dX7_circleOf_4 rfl (lv_at hl 0 rfl) ?_
      refine lv_bipush (v := 8) hx hb dX7_circleOf_5 (by decide) ?_
      refine lv_icmp_ge (tgt := 39) hx hb dX7_circleOf_7 (by decide) (fun c12 => ?_) (fun c12 => ?_)
      · skip
        have fc12 : 8 ≤ x7.toInt := Int32.le_iff_toInt_le.mp c12
        refine lv_iload_n hx hb dX7_circleOf_39 rfl (lv_at hl 1 rfl) ?_
        subst hQ
        have hP9 := hP.sub (ws' := [(h0, .inr (7, [.ref h1, .ref r0, .int v0, .int v1])), (h1, .inl (g0, 58, .inl f2))]) [0, 1] rfl
        have hD9 := hD.sub (ws' := [(h0, .inr (7, [.ref h1, .ref r0, .int v0, .int v1])), (h1, .inl (g0, 58, .inl f2))]) [0, 1] (by decide) rfl
        have hK9 := hK.sub (tys' := []) [] rfl
        exact W.iret (v := x8) hx hb hr (fun t ht hW => ⟨⟨x8, (), rfl, trivial, by rw [ht]; exact hP9, va_K.moved hW.alike hK9, hD9⟩, hS.F ht⟩) hS.2.2 dX7_circleOf_40
      · skip
        have fc12 : ¬ (8 ≤ x7.toInt) := fun h9 => c12 (Int32.le_iff_toInt_le.mpr h9)
        refine lv_aload_n hx hb dX7_circleOf_10 rfl (lv_at hl 2 rfl) ?_
        refine lv_iload_n hx hb dX7_circleOf_11 rfl (lv_at hl 0 rfl) ?_
        have hPc := hP.sub (ws' := [(h0, .inr (7, [.ref h1, .ref r0, .int v0, .int v1])), (h1, .inl (g0, 58, .inl f2))]) [0, 1] rfl
        have hDc := hD.sub (ws' := [(h0, .inr (7, [.ref h1, .ref r0, .int v0, .int v1])), (h1, .inl (g0, 58, .inl f2))]) [0, 1] (by decide) rfl
        have hKc := hK.sub (tys' := [(g0, .int)]) [0] rfl
        have hFc := va_free (wc := [(h0, .inr (7, [.ref h1, .ref r0, .int v0, .int v1])), (h1, .inl (g0, 58, .inl f2))]) hD hS hA [0, 1] rfl
        refine va_calli (va_runV (As := [.int x7]) (rest := []) ⟨hx, hb, hml, hown, hts⟩ (k_X7_has l dC dI h0 h1 r0 v0 v1 g0 f2 x7  H.size) (cwV 1 hts g_X7_circleOf_0 rfl rfl rfl (by decide +kernel) ⟨Nat.le_of_ble_eq_true rfl, Nat.le_of_ble_eq_true rfl⟩) ⟨fun a U g mk q => by obtain ⟨q0, q1, qP, qK, qD⟩ := q; exact ⟨q0, q1, qP, va_K.moved (u := U) (U := U.calling g mk a) (Vm.Alike.refl U.vm) qK, qD⟩, va_recv hKc hPc (ci := 7) (q0 := 0) rfl rfl, fun U hU hW => ⟨rfl, by rw [hU], by rw [hU]; exact hPc, va_K.moved hW.alike hKc, hDc.weaken (fun _ _ _ _ => trivial)⟩⟩ rfl rfl hl.1 rfl (lv_room (Nat.le_of_ble_eq_true rfl)) dX7_circleOf_12 ⟨Nat.le_of_ble_eq_true rfl, Nat.le_of_ble_eq_true rfl⟩) hS (fun q _ h => hFc q h) hFc (fun ra13 u t H1 locs ht hvm hwra13 hB hz1 hk1 hS => ?_)
        obtain ⟨hP1, hK1, hD1⟩ := hB
        rw [ht] at hP1
        obtain ⟨hP, hD⟩ := va_join (wr := []) (w1 := [(h0, .inr (7, [.ref h1, .ref r0, .int v0, .int v1])), (h1, .inl (g0, 58, .inl f2))]) hP hD [0, 1] [] rfl rfl (by decide) (by decide) hk1 hFc hP1 hD1
        generalize H1 = H at hP hS ⊢
        have hP : va_P (dC, dI) vwCl [(h0, .inr (7, [.ref h1, .ref r0, .int v0, .int v1])), (h1, .inl (g0, 58, .inl f2))] H := hP
        have hD : va_D A [(h0, .inr (7, [.ref h1, .ref r0, .int v0, .int v1])), (h1, .inl (g0, 58, .inl f2))] := hD
        obtain ⟨wa_ra13, wb_ra13⟩ := hwra13
        have wa_ra13 : 0 ≤ ra13.toInt := wa_ra13
        have wb_ra13 : ra13.toInt ≤ 1 := wb_ra13
        have hJ15 : ∀ (x14 : Int32) (H : Heap) (locs : List Loc) (ls : Array Slot), va_P (dC, dI) vwCl [(h0, .inr (7, [.ref h1, .ref r0, .int v0, .int v1])), (h1, .inl (g0, 58, .inl f2))] H → va_D A [(h0, .inr (7, [.ref h1, .ref r0, .int v0, .int v1])), (h1, .inl (g0, 58, .inl f2))] → va_S A s.heap H locs → lv_has ls 4 [(3, .int x7), (2, .int x14), (0, .ref h0), (1, .int v3)] → W p l e ({ frames := 2, cells := 0, slots := 0, locals := 44 }) s m ([.ref h0, .int v3] : List Value).toArray below meth c H locs 0 0 Q (F0 m 33 ls []) := by
          intro x14 H locs ls hP hD hS hl
          obtain ⟨t16, et16⟩ : ∃ y : Int32, y = x7 + 1 := ⟨_, rfl⟩
          have gt16 : t16.toInt = x7.toInt + (1) := pv_add (a := x7.toInt) (b := (1)) et16 rfl (by decide) (by omega) (by omega)
          refine lv_iinc (v := t16) (lv' := [(3, .int t16), (2, .int x14), (0, .ref h0), (1, .int v3)]) hx hb dX7_circleOf_33 hl (k := 0) rfl (by rw [et16]; rfl) (by decide) rfl (fun ls hl => ?_)
          refine lv_goto (tgt := 4) hx hb dX7_circleOf_36 (by decide) ?_
          exact ih t16 x14 H locs ls (by first | omega | decide) (by first | omega | decide) (by first | omega | (simp only [Int.toNat] at *; omega)) hP hD hS (lv_sub hl [0, 1, 2, 3] rfl)
        refine lv_if_eq (tgt := 33) hx hb dX7_circleOf_15 (by decide) (fun c17 => ?_) (fun c17 => ?_)
        · skip
          have fc17 : ra13.toInt = 0 := congrArg Int32.toInt c17
          exact hJ15 x8 H locs ls hP hD hS (lv_sub hl [0, 1, 2, 3] rfl)
        · skip
          have fc17 : ¬ (ra13.toInt = 0) := fun h9 => c17 (Int32.toInt_inj.mp h9)
          refine lv_aload_n hx hb dX7_circleOf_18 rfl (lv_at hl 2 rfl) ?_
          refine lv_iload_n hx hb dX7_circleOf_19 rfl (lv_at hl 3 rfl) ?_
          refine lv_iload_n hx hb dX7_circleOf_20 rfl (lv_at hl 0 rfl) ?_
          have hPc := hP.sub (ws' := [(h0, .inr (7, [.ref h1, .ref r0, .int v0, .int v1])), (h1, .inl (g0, 58, .inl f2))]) [0, 1] rfl
          have hDc := hD.sub (ws' := [(h0, .inr (7, [.ref h1, .ref r0, .int v0, .int v1])), (h1, .inl (g0, 58, .inl f2))]) [0, 1] (by decide) rfl
          have hKc := hK.sub (tys' := [(g0, .int)]) [0] rfl
          have hFc := va_free (wc := [(h0, .inr (7, [.ref h1, .ref r0, .int v0, .int v1])), (h1, .inl (g0, 58, .inl f2))]) hD hS hA [0, 1] rfl
          refine va_calli (va_runV (As := [.int v3, .int x7]) (rest := []) ⟨hx, hb, hml, hown, hts⟩ (k_X7_setOff l dC dI h0 h1 r0 v0 v1 g0 f2 v3 x7  H.size) (cwV 2 hts g_X7_circleOf_1 rfl rfl rfl (by decide +kernel) ⟨Nat.le_of_ble_eq_true rfl, Nat.le_of_ble_eq_true rfl⟩) ⟨fun a U g mk q => by obtain ⟨q0, q1, qP, qK, qD⟩ := q; exact ⟨q0, q1, qP, va_K.moved (u := U) (U := U.calling g mk a) (Vm.Alike.refl U.vm) qK, qD⟩, va_recv hKc hPc (ci := 7) (q0 := 0) rfl rfl, fun U hU hW => ⟨rfl, by rw [hU], by rw [hU]; exact hPc, va_K.moved hW.alike hKc, hDc.weaken (fun _ _ _ _ => trivial)⟩⟩ rfl rfl hl.1 rfl (lv_room (Nat.le_of_ble_eq_true rfl)) dX7_circleOf_21 ⟨Nat.le_of_ble_eq_true rfl, Nat.le_of_ble_eq_true rfl⟩) hS (fun q _ h => hFc q h) hFc (fun ra18 u t H1 locs ht hvm hwra18 hB hz1 hk1 hS => ?_)
          obtain ⟨hP1, hK1, hD1⟩ := hB
          rw [ht] at hP1
          obtain ⟨hP, hD⟩ := va_join (wr := []) (w1 := [(h0, .inr (7, [.ref h1, .ref r0, .int v0, .int v1])), (h1, .inl (g0, 58, .inl f2))]) hP hD [0, 1] [] rfl rfl (by decide) (by decide) hk1 hFc hP1 hD1
          generalize H1 = H at hP hS ⊢
          have hP : va_P (dC, dI) vwCl [(h0, .inr (7, [.ref h1, .ref r0, .int v0, .int v1])), (h1, .inl (g0, 58, .inl f2))] H := hP
          have hD : va_D A [(h0, .inr (7, [.ref h1, .ref r0, .int v0, .int v1])), (h1, .inl (g0, 58, .inl f2))] := hD
          obtain ⟨wa_ra18, wb_ra18⟩ := hwra18
          have wa_ra18 : 0 ≤ ra18.toInt := wa_ra18
          have wb_ra18 : ra18.toInt ≤ 1 := wb_ra18
          refine lv_if_eq (tgt := 33) hx hb dX7_circleOf_24 (by decide) (fun c19 => ?_) (fun c19 => ?_)
          · skip
            have fc19 : ra18.toInt = 0 := congrArg Int32.toInt c19
            exact hJ15 x8 H locs ls hP hD hS (lv_sub hl [0, 1, 2, 3] rfl)
          · skip
            have fc19 : ¬ (ra18.toInt = 0) := fun h9 => c19 (Int32.toInt_inj.mp h9)
            refine lv_iload_n hx hb dX7_circleOf_27 rfl (lv_at hl 1 rfl) ?_
            refine lv_iconst (v := 1) hx hb dX7_circleOf_28 (by decide) ?_
            refine lv_iload_n hx hb dX7_circleOf_29 rfl (lv_at hl 0 rfl) ?_
            refine lv_ishl hx hb dX7_circleOf_30 ?_
            refine lv_topi (fun t20 et20 => ?_)
            refine lv_ior hx hb dX7_circleOf_31 ?_
            refine lv_topi (fun t21 et21 => ?_)
            refine lv_istore_n (lv' := [(2, .int t21), (3, .int x7), (0, .ref h0), (1, .int v3)]) hx hb dX7_circleOf_32 rfl hl (by decide) rfl (fun ls hl => ?_)
            exact hJ15 t21 H locs ls hP hD hS (lv_sub hl [1, 0, 2, 3] rfl)
  exact hL11 _ 0 0 H locs ls (by first | omega | decide) (by first | omega | decide) (Nat.lt_succ_self _) hP hD hS (lv_sub hl [0, 1, 2, 3] rfl)
def q_J6_bitCount_0f7a4 : List Cond := .code yJ6_bitCount_0f7a4 cJ6_bitCount_0f7a4 1 (some .int) :: (([.constant RJ6 265 (1431655765), .constant RJ6 266 (858993459), .constant RJ6 267 (252645135)] : List Cond))
set_option maxHeartbeats 4000000 in
set_option maxRecDepth 100000 in
theorem k_J6_bitCount_0f7a4 (l : Launch) (dC : Nat → ClassId) (dI : Nat → Nat → Nat) (v0 : Int32) (sz : Nat) : Met l yJ6_bitCount_0f7a4 q_J6_bitCount_0f7a4 ({ frames := 0, cells := 0, slots := 0, locals := 0 }) (va_Pc [.int v0] (fun U => U.heap.size = sz ∧ va_P (dC, dI) vwCl [] U.heap ∧ va_K (dC, dI) vwCl [] U ∧ va_D (fun _ => True) [])) (va_Qi (fun (r : Int32) (_ : Unit) => 0 ≤ r.toInt ∧ r.toInt ≤ 63) (fun (_ : Unit) (t : State) => va_P (dC, dI) vwCl [] t.heap ∧ va_K (dC, dI) vwCl [] t ∧ va_D (va_A [] sz) []) (va_A [] sz)) 0 0 (va_A [] sz) := by
  refine pv_ofWF (cc := cJ6_bitCount_0f7a4) (maxL := 1) (ret := (some .int)) (by decide +kernel) rfl ?_
  intro p e s m args below meth c s₁ B hml hv
  obtain ⟨rfl, hsz, hP, hK, hD0⟩ := hv
  have hx := B.exec
  have hb := B.bytes
  have hr := B.returns
  have hts := atoms_spec (ws := q_J6_bitCount_0f7a4) B.pre
  have hown : s.vm.findClass RJ6 = some m.cls := findClass_of_methodNamed B.named
  have hlocks := B.notSynchronized
  subst hsz
  have hD := hD0.self (sz := s.heap.size)
  generalize hAe : va_A [] s.heap.size = A at hD ⊢
  have hA : ∀ q : Nat, s.heap.size ≤ q → A q := fun q h => by rw [← hAe]; exact Or.inr h
  have hS : va_S A s.heap s.heap [] := va_S.rf
  generalize hQ : (MQ below _ _ s 0 0 A) = Q
  have hl := lv_entry ([.int v0]) (n := 1) (Nat.le_of_ble_eq_true rfl)
  rw [lg_entry_eq]
  generalize (lg_sl ([.int v0]) ++ List.replicate (1 - (lg_sl ([.int v0])).length) Slot.unset).toArray = ls at hl ⊢
  have hl : lv_has ls 1 [(0, .int v0)] := hl
  obtain ⟨H, hH⟩ : ∃ H : Heap, H = s.heap := ⟨_, rfl⟩
  obtain ⟨locs, hlocs⟩ : ∃ y : List Loc, y = [] := ⟨_, rfl⟩
  have hS : va_S A s.heap H locs := by rw [hH, hlocs]; exact va_S.rf
  have hP : va_P (dC, dI) vwCl [] H := by rw [hH]; exact hP
  rw [← hH, ← hlocs]
  refine lv_iload_n hx hb dJ6_bitCount_0f7a4_0 rfl (lv_at hl 0 rfl) ?_
  refine lv_iload_n hx hb dJ6_bitCount_0f7a4_1 rfl (lv_at hl 0 rfl) ?_
  refine lv_iconst (v := 1) hx hb dJ6_bitCount_0f7a4_2 (by decide) ?_
  refine lv_iushr (v := ((v0 : Int32).toUInt32 >>> ((1 : Int32).toUInt32 &&& Int32.toUInt32 31)).toInt32) hx hb dJ6_bitCount_0f7a4_3 rfl ?_
  refine lv_topi (fun t1 et1 => ?_)
  refine lv_ldcw (v := 1431655765) hx hb hown (hts (.constant RJ6 265 (1431655765)) (List.mem_cons_of_mem _ (List.mem_of_getElem? (i := 0) rfl))) dJ6_bitCount_0f7a4_4 ?_
  refine lv_iand hx hb dJ6_bitCount_0f7a4_7 ?_
  refine lv_topi (fun t2 et2 => ?_)
  have gt2 : 0 ≤ t2.toInt ∧ t2.toInt ≤ 1431655765 := pv_andR et2 (by decide) (by decide)
  refine lv_isub hx hb dJ6_bitCount_0f7a4_8 ?_
  refine lv_topi (fun t3 et3 => ?_)
  refine lv_istore_n (lv' := [(0, .int t3)]) hx hb dJ6_bitCount_0f7a4_9 rfl hl (by decide) rfl (fun ls hl => ?_)
  refine lv_iload_n hx hb dJ6_bitCount_0f7a4_10 rfl (lv_at hl 0 rfl) ?_
  refine lv_ldcw (v := 858993459) hx hb hown (hts (.constant RJ6 266 (858993459)) (List.mem_cons_of_mem _ (List.mem_of_getElem? (i := 1) rfl))) dJ6_bitCount_0f7a4_11 ?_
  refine lv_iand hx hb dJ6_bitCount_0f7a4_14 ?_
  refine lv_topi (fun t4 et4 => ?_)
  have gt4 : 0 ≤ t4.toInt ∧ t4.toInt ≤ 858993459 := pv_andR et4 (by decide) (by decide)
  refine lv_iload_n hx hb dJ6_bitCount_0f7a4_15 rfl (lv_at hl 0 rfl) ?_
  refine lv_iconst (v := 2) hx hb dJ6_bitCount_0f7a4_16 (by decide) ?_
  refine lv_iushr (v := ((t3 : Int32).toUInt32 >>> ((2 : Int32).toUInt32 &&& Int32.toUInt32 31)).toInt32) hx hb dJ6_bitCount_0f7a4_17 rfl ?_
  refine lv_topi (fun t5 et5 => ?_)
  refine lv_ldcw (v := 858993459) hx hb hown (hts (.constant RJ6 266 (858993459)) (List.mem_cons_of_mem _ (List.mem_of_getElem? (i := 1) rfl))) dJ6_bitCount_0f7a4_18 ?_
  refine lv_iand hx hb dJ6_bitCount_0f7a4_21 ?_
  refine lv_topi (fun t6 et6 => ?_)
  have gt6 : 0 ≤ t6.toInt ∧ t6.toInt ≤ 858993459 := pv_andR et6 (by decide) (by decide)
  refine lv_iadd hx hb dJ6_bitCount_0f7a4_22 ?_
  refine lv_topi (fun t7 et7 => ?_)
  have gt7 : t7.toInt = t4.toInt + t6.toInt := pv_add (a := t4.toInt) (b := t6.toInt) et7 rfl rfl (by omega) (by omega)
  refine lv_istore_n (lv' := [(0, .int t7)]) hx hb dJ6_bitCount_0f7a4_23 rfl hl (by decide) rfl (fun ls hl => ?_)
  refine lv_iload_n hx hb dJ6_bitCount_0f7a4_24 rfl (lv_at hl 0 rfl) ?_
  refine lv_iload_n hx hb dJ6_bitCount_0f7a4_25 rfl (lv_at hl 0 rfl) ?_
  refine lv_iconst (v := 4) hx hb dJ6_bitCount_0f7a4_26 (by decide) ?_
  refine lv_iushr (v := ((t7 : Int32).toUInt32 >>> ((4 : Int32).toUInt32 &&& Int32.toUInt32 31)).toInt32) hx hb dJ6_bitCount_0f7a4_27 rfl ?_
  refine lv_topi (fun t8 et8 => ?_)
  refine lv_iadd hx hb dJ6_bitCount_0f7a4_28 ?_
  refine lv_topi (fun t9 et9 => ?_)
  refine lv_ldcw (v := 252645135) hx hb hown (hts (.constant RJ6 267 (252645135)) (List.mem_cons_of_mem _ (List.mem_of_getElem? (i := 2) rfl))) dJ6_bitCount_0f7a4_29 ?_
  refine lv_iand hx hb dJ6_bitCount_0f7a4_32 ?_
  refine lv_topi (fun t10 et10 => ?_)
  have gt10 : 0 ≤ t10.toInt ∧ t10.toInt ≤ 252645135 := pv_andR et10 (by decide) (by decide)
  refine lv_istore_n (lv' := [(0, .int t10)]) hx hb dJ6_bitCount_0f7a4_33 rfl hl (by decide) rfl (fun ls hl => ?_)
  refine lv_iload_n hx hb dJ6_bitCount_0f7a4_34 rfl (lv_at hl 0 rfl) ?_
  refine lv_iload_n hx hb dJ6_bitCount_0f7a4_35 rfl (lv_at hl 0 rfl) ?_
  refine lv_bipush (v := 8) hx hb dJ6_bitCount_0f7a4_36 (by decide) ?_
  refine lv_iushr (v := ((t10 : Int32).toUInt32 >>> ((8 : Int32).toUInt32 &&& Int32.toUInt32 31)).toInt32) hx hb dJ6_bitCount_0f7a4_38 rfl ?_
  refine lv_topi (fun t11 et11 => ?_)
  refine lv_iadd hx hb dJ6_bitCount_0f7a4_39 ?_
  refine lv_topi (fun t12 et12 => ?_)
  refine lv_istore_n (lv' := [(0, .int t12)]) hx hb dJ6_bitCount_0f7a4_40 rfl hl (by decide) rfl (fun ls hl => ?_)
  refine lv_iload_n hx hb dJ6_bitCount_0f7a4_41 rfl (lv_at hl 0 rfl) ?_
  refine lv_iload_n hx hb dJ6_bitCount_0f7a4_42 rfl (lv_at hl 0 rfl) ?_
  refine lv_bipush (v := 16) hx hb dJ6_bitCount_0f7a4_43 (by decide) ?_
  refine lv_iushr (v := ((t12 : Int32).toUInt32 >>> ((16 : Int32).toUInt32 &&& Int32.toUInt32 31)).toInt32) hx hb dJ6_bitCount_0f7a4_45 rfl ?_
  refine lv_topi (fun t13 et13 => ?_)
  refine lv_iadd hx hb dJ6_bitCount_0f7a4_46 ?_
  refine lv_topi (fun t14 et14 => ?_)
  refine lv_istore_n (lv' := [(0, .int t14)]) hx hb dJ6_bitCount_0f7a4_47 rfl hl (by decide) rfl (fun ls hl => ?_)
  refine lv_iload_n hx hb dJ6_bitCount_0f7a4_48 rfl (lv_at hl 0 rfl) ?_
  refine lv_bipush (v := 63) hx hb dJ6_bitCount_0f7a4_49 (by decide) ?_
  refine lv_iand hx hb dJ6_bitCount_0f7a4_51 ?_
  refine lv_topi (fun t15 et15 => ?_)
  have gt15 : 0 ≤ t15.toInt ∧ t15.toInt ≤ 63 := pv_andR et15 (by decide) (by decide)
  subst hQ
  have hP9 := hP.sub (ws' := []) [] rfl
  have hD9 := hD.sub (ws' := []) [] (by decide) rfl
  have hK9 := hK.sub (tys' := []) [] rfl
  exact W.iret (v := t15) hx hb hr (fun t ht hW => ⟨⟨t15, (), rfl, ⟨by first | omega | decide, by first | omega | decide⟩, by rw [ht]; exact hP9, va_K.moved hW.alike hK9, hD9⟩, hS.F ht⟩) hS.2.2 dJ6_bitCount_0f7a4_52
def q_X7_isCrowd : List Cond := .code yX7_isCrowd cX7_isCrowd 3 (some .boolean) :: (([.fieldLink RX7 15 "LeftArguments$Room" "perBag" "[I"] : List Cond) ++ wsX70)
set_option maxHeartbeats 4000000 in
set_option maxRecDepth 100000 in
theorem k_X7_isCrowd (l : Launch) (dC : Nat → ClassId) (dI : Nat → Nat → Nat) (h0 : Nat) (h1 : Nat) (r0 : Nat) (v0 : Int32) (v1 : Int32) (g0 : ClassId) (f2 : Nat → Int32) (v3 : Int32) (sz : Nat) : Met l yX7_isCrowd q_X7_isCrowd ({ frames := 0, cells := 0, slots := 0, locals := 0 }) (va_Pc [.ref h0, .int v3] (fun U => U.heap.size = sz ∧ va_P (dC, dI) vwCl [(h0, .inr (7, [.ref r0, .ref h1, .int v0, .int v1])), (h1, .inl (g0, 8, .inl f2))] U.heap ∧ va_K (dC, dI) vwCl [(g0, .int)] U ∧ va_D (fun _ => True) [(h0, .inr (7, [.ref r0, .ref h1, .int v0, .int v1])), (h1, .inl (g0, 8, .inl f2))])) (va_Qi (fun (r : Int32) (_ : Unit) => 0 ≤ r.toInt ∧ r.toInt ≤ 1) (fun (_ : Unit) (t : State) => va_P (dC, dI) vwCl [(h0, .inr (7, [.ref r0, .ref h1, .int v0, .int v1])), (h1, .inl (g0, 8, .inl f2))] t.heap ∧ va_K (dC, dI) vwCl [] t ∧ va_D (va_A [(h0, .inr (7, [.ref r0, .ref h1, .int v0, .int v1])), (h1, .inl (g0, 8, .inl f2))] sz) [(h0, .inr (7, [.ref r0, .ref h1, .int v0, .int v1])), (h1, .inl (g0, 8, .inl f2))]) (va_A [(h0, .inr (7, [.ref r0, .ref h1, .int v0, .int v1])), (h1, .inl (g0, 8, .inl f2))] sz)) 0 0 (va_A [(h0, .inr (7, [.ref r0, .ref h1, .int v0, .int v1])), (h1, .inl (g0, 8, .inl f2))] sz) := by
  refine Met.ofW (cc := cX7_isCrowd) (maxL := 3) (ret := (some .boolean)) (by decide) rfl ?_
  intro p e s m args below meth c s₁ B hml hv
  obtain ⟨rfl, hsz, hP, hK, hD0⟩ := hv
  have hx := B.exec
  have hb := B.bytes
  have hr := B.returns
  have hts := atoms_spec (ws := q_X7_isCrowd) B.pre
  have hown : s.vm.findClass RX7 = some m.cls := findClass_of_methodNamed B.named
  have hlocks := B.notSynchronized
  subst hsz
  have hD := hD0.self (sz := s.heap.size)
  generalize hAe : va_A [(h0, .inr (7, [.ref r0, .ref h1, .int v0, .int v1])), (h1, .inl (g0, 8, .inl f2))] s.heap.size = A at hD ⊢
  have hA : ∀ q : Nat, s.heap.size ≤ q → A q := fun q h => by rw [← hAe]; exact Or.inr h
  have hS : va_S A s.heap s.heap [] := va_S.rf
  generalize hQ : (MQ below _ _ s 0 0 A) = Q
  have hl := lv_entry ([.ref h0, .int v3]) (n := 3) (Nat.le_of_ble_eq_true rfl)
  rw [lg_entry_eq]
  generalize (lg_sl ([.ref h0, .int v3]) ++ List.replicate (3 - (lg_sl ([.ref h0, .int v3])).length) Slot.unset).toArray = ls at hl ⊢
  have hl : lv_has ls 3 [(0, .ref h0), (1, .int v3)] := hl
  obtain ⟨H, hH⟩ : ∃ H : Heap, H = s.heap := ⟨_, rfl⟩
  obtain ⟨locs, hlocs⟩ : ∃ y : List Loc, y = [] := ⟨_, rfl⟩
  have hS : va_S A s.heap H locs := by rw [hH, hlocs]; exact va_S.rf
  have hP : va_P (dC, dI) vwCl [(h0, .inr (7, [.ref r0, .ref h1, .int v0, .int v1])), (h1, .inl (g0, 8, .inl f2))] H := by rw [hH]; exact hP
  rw [← hH, ← hlocs]
  refine lv_iconst (v := 0) hx hb dX7_isCrowd_0 (by decide) ?_
  refine lv_istore_n (lv' := [(2, .int 0), (0, .ref h0), (1, .int v3)]) hx hb dX7_isCrowd_1 rfl hl (by decide) rfl (fun ls hl => ?_)
  have hL6 : ∀ (n9 : Nat), ∀ (x4 : Int32) (H : Heap) (locs : List Loc) (ls : Array Slot), 0 ≤ x4.toInt → x4.toInt ≤ 8 → (8 - x4.toInt).toNat < n9 → va_P (dC, dI) vwCl [(h0, .inr (7, [.ref r0, .ref h1, .int v0, .int v1])), (h1, .inl (g0, 8, .inl f2))] H → va_D A [(h0, .inr (7, [.ref r0, .ref h1, .int v0, .int v1])), (h1, .inl (g0, 8, .inl f2))] → va_S A s.heap H locs → lv_has ls 3 [(2, .int x4), (0, .ref h0), (1, .int v3)] → W p l e ({ frames := 0, cells := 0, slots := 0, locals := 0 }) s m ([.ref h0, .int v3] : List Value).toArray below meth c H locs 0 0 Q (F0 m 2 ls []) := by
    intro n9
    induction n9 with
    | zero => intro x4 H locs ls qa_x4 qb_x4 hm9 hP hD hS hl; exact absurd hm9 (Nat.not_lt_zero _)
    | succ n9 ih =>
      intro x4 H locs ls qa_x4 qb_x4 hm9 hP hD hS hl
      refine lv_iload_n hx hb dX7_isCrowd_2 rfl (lv_at hl 0 rfl) ?_
      refine lv_bipush (v := 8) hx hb dX7_isCrowd_3 (by decide) ?_
      refine lv_icmp_ge (tgt := 38) hx hb dX7_isCrowd_5 (by decide) (fun c7 => ?_) (fun c7 => ?_)
      · skip
        have fc7 : 8 ≤ x4.toInt := Int32.le_iff_toInt_le.mp c7
        refine lv_iconst (v := 1) hx hb dX7_isCrowd_38 (by decide) ?_
        subst hQ
        have hP9 := hP.sub (ws' := [(h0, .inr (7, [.ref r0, .ref h1, .int v0, .int v1])), (h1, .inl (g0, 8, .inl f2))]) [0, 1] rfl
        have hD9 := hD.sub (ws' := [(h0, .inr (7, [.ref r0, .ref h1, .int v0, .int v1])), (h1, .inl (g0, 8, .inl f2))]) [0, 1] (by decide) rfl
        have hK9 := hK.sub (tys' := []) [] rfl
        exact W.zret (v := 1) hx hb hr rfl (fun t ht hW => ⟨⟨1, (), rfl, ⟨by first | omega | decide, by first | omega | decide⟩, by rw [ht]; exact hP9, va_K.moved hW.alike hK9, hD9⟩, hS.F ht⟩) hS.2.2 dX7_isCrowd_39
      · skip
        have fc7 : ¬ (8 ≤ x4.toInt) := fun h9 => c7 (Int32.le_iff_toInt_le.mpr h9)
        refine lv_iload_n hx hb dX7_isCrowd_8 rfl (lv_at hl 2 rfl) ?_
        refine lv_iload_n hx hb dX7_isCrowd_9 rfl (lv_at hl 0 rfl) ?_
        refine lv_ishr hx hb dX7_isCrowd_10 ?_
        refine lv_topi (fun t8 et8 => ?_)
        refine lv_iconst (v := 1) hx hb dX7_isCrowd_11 (by decide) ?_
        refine lv_iand hx hb dX7_isCrowd_12 ?_
        refine lv_topi (fun t9 et9 => ?_)
        have gt9 : 0 ≤ t9.toInt ∧ t9.toInt ≤ 1 := pv_andR et9 (by decide) (by decide)
        refine lv_iconst (v := 1) hx hb dX7_isCrowd_13 (by decide) ?_
        refine lv_icmp_ne (tgt := 32) hx hb dX7_isCrowd_14 (by decide) (fun c10 => ?_) (fun c10 => ?_)
        · skip
          have fc10 : ¬ (t9.toInt = 1) := fun h9 => c10 (Int32.toInt_inj.mp h9)
          obtain ⟨t11, et11⟩ : ∃ y : Int32, y = x4 + 1 := ⟨_, rfl⟩
          have gt11 : t11.toInt = x4.toInt + (1) := pv_add (a := x4.toInt) (b := (1)) et11 rfl (by decide) (by omega) (by omega)
          refine lv_iinc (v := t11) (lv' := [(2, .int t11), (0, .ref h0), (1, .int v3)]) hx hb dX7_isCrowd_32 hl (k := 0) rfl (by rw [et11]; rfl) (by decide) rfl (fun ls hl => ?_)
          refine lv_goto (tgt := 2) hx hb dX7_isCrowd_35 (by decide) ?_
          exact ih t11 H locs ls (by first | omega | decide) (by first | omega | decide) (by first | omega | (simp only [Int.toNat] at *; omega)) hP hD hS (lv_sub hl [0, 1, 2] rfl)
        · skip
          have fc10 : t9.toInt = 1 := congrArg Int32.toInt c10
          refine lv_iload_n hx hb dX7_isCrowd_17 rfl (lv_at hl 2 rfl) ?_
          refine lv_aload_n hx hb dX7_isCrowd_18 rfl (lv_at hl 1 rfl) ?_
          refine va_get (D := (dC, dI)) (ci := 7) (v := .ref h1) (C := RX7) (T := TX7) (N := 4) hx hb hts (fun _ h => List.mem_cons_of_mem _ (List.mem_append_right _ h)) hown hK hP 0 rfl rfl 1 (by decide) (hts (.fieldLink RX7 15 "LeftArguments$Room" "perBag" "[I") (List.mem_cons_of_mem _ (List.mem_append_left _ (List.mem_of_getElem? (i := 0) rfl)))) (fun _ h9 => h9) rfl dX7_isCrowd_19 ?_
          refine lv_iload_n hx hb dX7_isCrowd_22 rfl (lv_at hl 0 rfl) ?_
          refine va_iald hx hb hK hP 1 0 rfl rfl (vp_in_iff.mpr ⟨by omega, by omega⟩) dX7_isCrowd_23 ?_
          refine lv_topi (fun t12 et12 => ?_)
          refine lv_iconst (v := (-1)) hx hb dX7_isCrowd_24 (by decide) ?_
          refine lv_ixor hx hb dX7_isCrowd_25 ?_
          refine lv_topi (fun t13 et13 => ?_)
          refine lv_iand hx hb dX7_isCrowd_26 ?_
          refine lv_topi (fun t14 et14 => ?_)
          refine lv_if_eq (tgt := 32) hx hb dX7_isCrowd_27 (by decide) (fun c15 => ?_) (fun c15 => ?_)
          · skip
            have fc15 : t14.toInt = 0 := congrArg Int32.toInt c15
            obtain ⟨t16, et16⟩ : ∃ y : Int32, y = x4 + 1 := ⟨_, rfl⟩
            have gt16 : t16.toInt = x4.toInt + (1) := pv_add (a := x4.toInt) (b := (1)) et16 rfl (by decide) (by omega) (by omega)
            refine lv_iinc (v := t16) (lv' := [(2, .int t16), (0, .ref h0), (1, .int v3)]) hx hb dX7_isCrowd_32 hl (k := 0) rfl (by rw [et16]; rfl) (by decide) rfl (fun ls hl => ?_)
            refine lv_goto (tgt := 2) hx hb dX7_isCrowd_35 (by decide) ?_
            exact ih t16 H locs ls (by first | omega | decide) (by first | omega | decide) (by first | omega | (simp only [Int.toNat] at *; omega)) hP hD hS (lv_sub hl [0, 1, 2] rfl)
          · skip
            have fc15 : ¬ (t14.toInt = 0) := fun h9 => c15 (Int32.toInt_inj.mp h9)
            refine lv_iconst (v := 0) hx hb dX7_isCrowd_30 (by decide) ?_
            subst hQ
            have hP9 := hP.sub (ws' := [(h0, .inr (7, [.ref r0, .ref h1, .int v0, .int v1])), (h1, .inl (g0, 8, .inl f2))]) [0, 1] rfl
            have hD9 := hD.sub (ws' := [(h0, .inr (7, [.ref r0, .ref h1, .int v0, .int v1])), (h1, .inl (g0, 8, .inl f2))]) [0, 1] (by decide) rfl
            have hK9 := hK.sub (tys' := []) [] rfl
            exact W.zret (v := 0) hx hb hr rfl (fun t ht hW => ⟨⟨0, (), rfl, ⟨by first | omega | decide, by first | omega | decide⟩, by rw [ht]; exact hP9, va_K.moved hW.alike hK9, hD9⟩, hS.F ht⟩) hS.2.2 dX7_isCrowd_31
  exact hL6 _ 0 H locs ls (by first | omega | decide) (by first | omega | decide) (Nat.lt_succ_self _) hP hD hS (lv_sub hl [0, 1, 2] rfl)
def q_X7_loudestCrowd : List Cond := .code yX7_loudestCrowd cX7_loudestCrowd 3 (some .int) :: (([.code yJ6_bitCount_0f7a4 cJ6_bitCount_0f7a4 1 (some .int), .constant RJ6 265 (1431655765), .constant RJ6 266 (858993459), .constant RJ6 267 (252645135), .initialized RJ6, .static yJ6_bitCount_0f7a4, .methodLink RX7 120 yJ6_bitCount_0f7a4, .code yX7_isCrowd cX7_isCrowd 3 (some .boolean), .fieldLink RX7 15 "LeftArguments$Room" "perBag" "[I", .initialized RX7, .instanceMethod yX7_isCrowd, .selects RX7 yX7_isCrowd yX7_isCrowd, .methodLink RX7 125 yX7_isCrowd, .code yX7_has cX7_has 2 (some .boolean), .fieldLink RX7 11 "LeftArguments$Room" "cells" "[I", .instanceMethod yX7_has, .selects RX7 yX7_has yX7_has, .methodLink RX7 70 yX7_has, .code yX7_circleOf cX7_circleOf 4 (some .int), .code yX7_setOff cX7_setOff 3 (some .boolean), .code yX7_of cX7_of 3 (some .int), .instanceMethod yX7_of, .selects RX7 yX7_of yX7_of, .methodLink RX7 74 yX7_of, .methodLink RX7 110 Lib.Math.abs.name, .static Lib.Math.abs.name, .initialized "java/lang/Math", .code Lib.Math.abs.name Lib.Math.abs.code 1 (some .int), .instanceMethod yX7_setOff, .selects RX7 yX7_setOff yX7_setOff, .methodLink RX7 113 yX7_setOff, .instanceMethod yX7_circleOf, .selects RX7 yX7_circleOf yX7_circleOf, .methodLink RX7 117 yX7_circleOf] : List Cond) ++ wsX70)
set_option maxRecDepth 20000 in
theorem g_X7_loudestCrowd_0 : GoodIn q_X7_loudestCrowd (va_wsS RX7 120 yJ6_bitCount_0f7a4 q_J6_bitCount_0f7a4) := goodIn_app (goodIn_r _ [7, 6, 5] (by decide +kernel) (by decide +kernel)) (goodIn_r (.code yJ6_bitCount_0f7a4 cJ6_bitCount_0f7a4 1 (some .int) :: [.constant RJ6 265 (1431655765), .constant RJ6 266 (858993459), .constant RJ6 267 (252645135)]) [1, 2, 3, 4] (by decide +kernel) (by decide +kernel))
set_option maxRecDepth 20000 in
theorem g_X7_loudestCrowd_1 : GoodIn q_X7_loudestCrowd (va_wsS RX7 120 yJ6_bitCount_0f7a4 q_J6_bitCount_0f7a4) := goodIn_app (goodIn_r _ [7, 6, 5] (by decide +kernel) (by decide +kernel)) (goodIn_r (.code yJ6_bitCount_0f7a4 cJ6_bitCount_0f7a4 1 (some .int) :: [.constant RJ6 265 (1431655765), .constant RJ6 266 (858993459), .constant RJ6 267 (252645135)]) [1, 2, 3, 4] (by decide +kernel) (by decide +kernel))
set_option maxRecDepth 20000 in
theorem g_X7_loudestCrowd_2 : GoodIn q_X7_loudestCrowd (wsV RX7 125 RX7 yX7_isCrowd q_X7_isCrowd) := goodIn_app (goodIn_r _ [13, 11, 12, 10] (by decide +kernel) (by decide +kernel)) (goodIn_ca (goodIn_r (.code yX7_isCrowd cX7_isCrowd 3 (some .boolean) :: [.fieldLink RX7 15 "LeftArguments$Room" "perBag" "[I"]) [8, 9] (by decide +kernel) (by decide +kernel)) (goodIn_sub (fun _ h => List.mem_cons_of_mem _ (List.mem_append_right _ h)) gwX7))
set_option maxRecDepth 20000 in
theorem g_X7_loudestCrowd_3 : GoodIn q_X7_loudestCrowd (wsV RX7 70 RX7 yX7_has q_X7_has) := goodIn_app (goodIn_r _ [18, 16, 17, 10] (by decide +kernel) (by decide +kernel)) (goodIn_ca (goodIn_r (.code yX7_has cX7_has 2 (some .boolean) :: [.fieldLink RX7 11 "LeftArguments$Room" "cells" "[I"]) [14, 15] (by decide +kernel) (by decide +kernel)) (goodIn_sub (fun _ h => List.mem_cons_of_mem _ (List.mem_append_right _ h)) gwX7))
set_option maxRecDepth 20000 in
theorem g_X7_loudestCrowd_4 : GoodIn q_X7_loudestCrowd (wsV RX7 117 RX7 yX7_circleOf q_X7_circleOf) := goodIn_app (goodIn_r _ [34, 32, 33, 10] (by decide +kernel) (by decide +kernel)) (goodIn_ca (goodIn_r (.code yX7_circleOf cX7_circleOf 4 (some .int) :: [.code yX7_has cX7_has 2 (some .boolean), .fieldLink RX7 11 "LeftArguments$Room" "cells" "[I", .initialized RX7, .instanceMethod yX7_has, .selects RX7 yX7_has yX7_has, .methodLink RX7 70 yX7_has, .code yX7_setOff cX7_setOff 3 (some .boolean), .code yX7_of cX7_of 3 (some .int), .instanceMethod yX7_of, .selects RX7 yX7_of yX7_of, .methodLink RX7 74 yX7_of, .methodLink RX7 110 Lib.Math.abs.name, .static Lib.Math.abs.name, .initialized "java/lang/Math", .code Lib.Math.abs.name Lib.Math.abs.code 1 (some .int), .instanceMethod yX7_setOff, .selects RX7 yX7_setOff yX7_setOff, .methodLink RX7 113 yX7_setOff]) [19, 14, 15, 10, 16, 17, 18, 20, 21, 22, 23, 24, 25, 26, 27, 28, 29, 30, 31] (by decide +kernel) (by decide +kernel)) (goodIn_sub (fun _ h => List.mem_cons_of_mem _ (List.mem_append_right _ h)) gwX7))
set_option maxHeartbeats 4000000 in
set_option maxRecDepth 100000 in
theorem k_X7_loudestCrowd (l : Launch) (dC : Nat → ClassId) (dI : Nat → Nat → Nat) (h0 : Nat) (h1 : Nat) (h2 : Nat) (v0 : Int32) (v1 : Int32) (g0 : ClassId) (f2 : Nat → Int32) (g1 : ClassId) (f3 : Nat → Int32) (sz : Nat) : Met l yX7_loudestCrowd q_X7_loudestCrowd ({ frames := 3, cells := 0, slots := 0, locals := 67 }) (va_Pc [.ref h0] (fun U => U.heap.size = sz ∧ va_P (dC, dI) vwCl [(h0, .inr (7, [.ref h1, .ref h2, .int v0, .int v1])), (h1, .inl (g0, 58, .inl f2)), (h2, .inl (g1, 8, .inl f3))] U.heap ∧ va_K (dC, dI) vwCl [(g0, .int), (g1, .int)] U ∧ va_D (fun _ => True) [(h0, .inr (7, [.ref h1, .ref h2, .int v0, .int v1])), (h1, .inl (g0, 58, .inl f2)), (h2, .inl (g1, 8, .inl f3))])) (va_Qi (fun (r : Int32) (_ : Unit) => 0 ≤ r.toInt ∧ r.toInt ≤ 255) (fun (_ : Unit) (t : State) => ∃ (o_h2 : Nat → Int32), va_P (dC, dI) vwCl [(h0, .inr (7, [.ref h1, .ref h2, .int v0, .int v1])), (h1, .inl (g0, 58, .inl f2)), (h2, .inl (g1, 8, .inl o_h2))] t.heap ∧ va_K (dC, dI) vwCl [] t ∧ va_D (va_A [(h0, .inr (7, [.ref h1, .ref h2, .int v0, .int v1])), (h1, .inl (g0, 58, .inl f2)), (h2, .inl (g1, 8, .inl f3))] sz) [(h0, .inr (7, [.ref h1, .ref h2, .int v0, .int v1])), (h1, .inl (g0, 58, .inl f2)), (h2, .inl (g1, 8, .inl o_h2))]) (va_A [(h0, .inr (7, [.ref h1, .ref h2, .int v0, .int v1])), (h1, .inl (g0, 58, .inl f2)), (h2, .inl (g1, 8, .inl f3))] sz)) 0 0 (va_A [(h0, .inr (7, [.ref h1, .ref h2, .int v0, .int v1])), (h1, .inl (g0, 58, .inl f2)), (h2, .inl (g1, 8, .inl f3))] sz) := by
  refine Met.ofW (cc := cX7_loudestCrowd) (maxL := 3) (ret := (some .int)) (by decide) rfl ?_
  intro p e s m args below meth c s₁ B hml hv
  obtain ⟨rfl, hsz, hP, hK, hD0⟩ := hv
  have hx := B.exec
  have hb := B.bytes
  have hr := B.returns
  have hts := atoms_spec (ws := q_X7_loudestCrowd) B.pre
  have hown : s.vm.findClass RX7 = some m.cls := findClass_of_methodNamed B.named
  have hlocks := B.notSynchronized
  subst hsz
  have hD := hD0.self (sz := s.heap.size)
  generalize hAe : va_A [(h0, .inr (7, [.ref h1, .ref h2, .int v0, .int v1])), (h1, .inl (g0, 58, .inl f2)), (h2, .inl (g1, 8, .inl f3))] s.heap.size = A at hD ⊢
  have hA : ∀ q : Nat, s.heap.size ≤ q → A q := fun q h => by rw [← hAe]; exact Or.inr h
  have hS : va_S A s.heap s.heap [] := va_S.rf
  generalize hQ : (MQ below _ _ s 0 0 A) = Q
  have hl := lv_entry ([.ref h0]) (n := 3) (Nat.le_of_ble_eq_true rfl)
  rw [lg_entry_eq]
  generalize (lg_sl ([.ref h0]) ++ List.replicate (3 - (lg_sl ([.ref h0])).length) Slot.unset).toArray = ls at hl ⊢
  have hl : lv_has ls 3 [(0, .ref h0)] := hl
  obtain ⟨H, hH⟩ : ∃ H : Heap, H = s.heap := ⟨_, rfl⟩
  obtain ⟨locs, hlocs⟩ : ∃ y : List Loc, y = [] := ⟨_, rfl⟩
  have hS : va_S A s.heap H locs := by rw [hH, hlocs]; exact va_S.rf
  have hP : va_P (dC, dI) vwCl [(h0, .inr (7, [.ref h1, .ref h2, .int v0, .int v1])), (h1, .inl (g0, 58, .inl f2)), (h2, .inl (g1, 8, .inl f3))] H := by rw [hH]; exact hP
  rw [← hH, ← hlocs]
  refine lv_iconst (v := 0) hx hb dX7_loudestCrowd_0 (by decide) ?_
  refine lv_istore_n (lv' := [(1, .int 0), (0, .ref h0)]) hx hb dX7_loudestCrowd_1 rfl hl (by decide) rfl (fun ls hl => ?_)
  have hL11 : ∀ (n9 : Nat), ∀ (x7 : Int32) (fn8 : Nat → Int32) (H : Heap) (locs : List Loc) (ls : Array Slot), 0 ≤ x7.toInt → x7.toInt ≤ 8 → (8 - x7.toInt).toNat < n9 → va_P (dC, dI) vwCl [(h0, .inr (7, [.ref h1, .ref h2, .int v0, .int v1])), (h1, .inl (g0, 58, .inl f2)), (h2, .inl (g1, 8, .inl fn8))] H → va_D A [(h0, .inr (7, [.ref h1, .ref h2, .int v0, .int v1])), (h1, .inl (g0, 58, .inl f2)), (h2, .inl (g1, 8, .inl fn8))] → va_S A s.heap H locs → lv_has ls 3 [(1, .int x7), (0, .ref h0)] → W p l e ({ frames := 3, cells := 0, slots := 0, locals := 67 }) s m ([.ref h0] : List Value).toArray below meth c H locs 0 0 Q (F0 m 2 ls []) := by
    intro n9
    induction n9 with
    | zero => intro x7 fn8 H locs ls qa_x7 qb_x7 hm9 hP hD hS hl; exact absurd hm9 (Nat.not_lt_zero _)
    | succ n9 ih =>
      intro x7 fn8 H locs ls qa_x7 qb_x7 hm9 hP hD hS hl
      refine lv_iload_n hx hb dX7_loudestCrowd_2 rfl (lv_at hl 0 rfl) ?_
      refine lv_bipush (v := 8) hx hb dX7_loudestCrowd_3 (by decide) ?_
      refine lv_icmp_ge (tgt := 37) hx hb dX7_loudestCrowd_5 (by decide) (fun c12 => ?_) (fun c12 => ?_)
      · skip
        have fc12 : 8 ≤ x7.toInt := Int32.le_iff_toInt_le.mp c12
        refine lv_iconst (v := 0) hx hb dX7_loudestCrowd_37 (by decide) ?_
        refine lv_istore_n (lv' := [(1, .int 0), (0, .ref h0)]) hx hb dX7_loudestCrowd_38 rfl hl (by decide) rfl (fun ls hl => ?_)
        refine lv_iconst (v := 1) hx hb dX7_loudestCrowd_39 (by decide) ?_
        refine lv_istore_n (lv' := [(2, .int 1), (1, .int 0), (0, .ref h0)]) hx hb dX7_loudestCrowd_40 rfl hl (by decide) rfl (fun ls hl => ?_)
        have hL35 : ∀ (n9 : Nat), ∀ (x31 : Int32) (x32 : Int32) (H : Heap) (locs : List Loc) (ls : Array Slot), 1 ≤ x31.toInt → x31.toInt ≤ 256 → 0 ≤ x32.toInt → x32.toInt ≤ 255 → (256 - x31.toInt).toNat < n9 → va_P (dC, dI) vwCl [(h0, .inr (7, [.ref h1, .ref h2, .int v0, .int v1])), (h1, .inl (g0, 58, .inl f2)), (h2, .inl (g1, 8, .inl fn8))] H → va_D A [(h0, .inr (7, [.ref h1, .ref h2, .int v0, .int v1])), (h1, .inl (g0, 58, .inl f2)), (h2, .inl (g1, 8, .inl fn8))] → va_S A s.heap H locs → lv_has ls 3 [(2, .int x31), (1, .int x32), (0, .ref h0)] → W p l e ({ frames := 3, cells := 0, slots := 0, locals := 67 }) s m ([.ref h0] : List Value).toArray below meth c H locs 0 0 Q (F0 m 41 ls []) := by
          intro n9
          induction n9 with
          | zero => intro x31 x32 H locs ls qa_x31 qb_x31 qa_x32 qb_x32 hm9 hP hD hS hl; exact absurd hm9 (Nat.not_lt_zero _)
          | succ n9 ih =>
            intro x31 x32 H locs ls qa_x31 qb_x31 qa_x32 qb_x32 hm9 hP hD hS hl
            refine lv_iload_n hx hb dX7_loudestCrowd_41 rfl (lv_at hl 0 rfl) ?_
            refine lv_sipush (v := 256) hx hb dX7_loudestCrowd_42 (by decide) ?_
            refine lv_icmp_ge (tgt := 75) hx hb dX7_loudestCrowd_45 (by decide) (fun c36 => ?_) (fun c36 => ?_)
            · skip
              have fc36 : 256 ≤ x31.toInt := Int32.le_iff_toInt_le.mp c36
              refine lv_iload_n hx hb dX7_loudestCrowd_75 rfl (lv_at hl 1 rfl) ?_
              subst hQ
              have hP9 := hP.sub (ws' := [(h0, .inr (7, [.ref h1, .ref h2, .int v0, .int v1])), (h1, .inl (g0, 58, .inl f2)), (h2, .inl (g1, 8, .inl fn8))]) [0, 1, 2] rfl
              have hD9 := hD.sub (ws' := [(h0, .inr (7, [.ref h1, .ref h2, .int v0, .int v1])), (h1, .inl (g0, 58, .inl f2)), (h2, .inl (g1, 8, .inl fn8))]) [0, 1, 2] (by decide) rfl
              have hK9 := hK.sub (tys' := []) [] rfl
              exact W.iret (v := x32) hx hb hr (fun t ht hW => ⟨⟨x32, (), rfl, ⟨by first | omega | decide, by first | omega | decide⟩, fn8, by rw [ht]; exact hP9, va_K.moved hW.alike hK9, hD9⟩, hS.F ht⟩) hS.2.2 dX7_loudestCrowd_76
            · skip
              have fc36 : ¬ (256 ≤ x31.toInt) := fun h9 => c36 (Int32.le_iff_toInt_le.mpr h9)
              refine lv_iload_n hx hb dX7_loudestCrowd_48 rfl (lv_at hl 0 rfl) ?_
              have hPc := hP.sub (ws' := []) [] rfl
              have hDc := hD.sub (ws' := []) [] (by decide) rfl
              have hKc := hK.sub (tys' := []) [] rfl
              have hFc := va_free (wc := []) hD hS hA [] rfl
              refine va_calli (va_runS (As := [.int x31]) (rest := []) ⟨hx, hb, hml, hown, hts⟩ (k_J6_bitCount_0f7a4 l dC dI x31  H.size) (va_cwS 1 hts g_X7_loudestCrowd_0 rfl rfl rfl (by decide +kernel) ⟨Nat.le_of_ble_eq_true rfl, Nat.le_of_ble_eq_true rfl⟩) ⟨fun a U g mk q => by obtain ⟨q0, q1, qP, qK, qD⟩ := q; exact ⟨q0, q1, qP, va_K.moved (u := U) (U := U.calling g mk a) (Vm.Alike.refl U.vm) qK, qD⟩, fun U hU hW => ⟨rfl, by rw [hU], by rw [hU]; exact hPc, va_K.moved hW.alike hKc, hDc.weaken (fun _ _ _ _ => trivial)⟩⟩ rfl rfl hl.1 rfl (lv_room (Nat.le_of_ble_eq_true rfl)) dX7_loudestCrowd_49 ⟨Nat.le_of_ble_eq_true rfl, Nat.le_of_ble_eq_true rfl⟩) hS (fun q _ h => hFc q h) hFc (fun ra37 u t H1 locs ht hvm hwra37 hB hz1 hk1 hS => ?_)
              obtain ⟨hP1, hK1, hD1⟩ := hB
              rw [ht] at hP1
              obtain ⟨hP, hD⟩ := va_join (wr := [(h0, .inr (7, [.ref h1, .ref h2, .int v0, .int v1])), (h1, .inl (g0, 58, .inl f2)), (h2, .inl (g1, 8, .inl fn8))]) (w1 := []) hP hD [] [0, 1, 2] rfl rfl (by decide) (by decide) hk1 hFc hP1 hD1
              generalize H1 = H at hP hS ⊢
              have hP : va_P (dC, dI) vwCl [(h0, .inr (7, [.ref h1, .ref h2, .int v0, .int v1])), (h1, .inl (g0, 58, .inl f2)), (h2, .inl (g1, 8, .inl fn8))] H := hP
              have hD : va_D A [(h0, .inr (7, [.ref h1, .ref h2, .int v0, .int v1])), (h1, .inl (g0, 58, .inl f2)), (h2, .inl (g1, 8, .inl fn8))] := hD
              obtain ⟨wa_ra37, wb_ra37⟩ := hwra37
              have wa_ra37 : 0 ≤ ra37.toInt := wa_ra37
              have wb_ra37 : ra37.toInt ≤ 63 := wb_ra37
              refine lv_iload_n hx hb dX7_loudestCrowd_52 rfl (lv_at hl 1 rfl) ?_
              have hPc := hP.sub (ws' := []) [] rfl
              have hDc := hD.sub (ws' := []) [] (by decide) rfl
              have hKc := hK.sub (tys' := []) [] rfl
              have hFc := va_free (wc := []) hD hS hA [] rfl
              refine va_calli (va_runS (As := [.int x32]) (rest := [.int ra37]) ⟨hx, hb, hml, hown, hts⟩ (k_J6_bitCount_0f7a4 l dC dI x32  H.size) (va_cwS 1 hts g_X7_loudestCrowd_1 rfl rfl rfl (by decide +kernel) ⟨Nat.le_of_ble_eq_true rfl, Nat.le_of_ble_eq_true rfl⟩) ⟨fun a U g mk q => by obtain ⟨q0, q1, qP, qK, qD⟩ := q; exact ⟨q0, q1, qP, va_K.moved (u := U) (U := U.calling g mk a) (Vm.Alike.refl U.vm) qK, qD⟩, fun U hU hW => ⟨rfl, by rw [hU], by rw [hU]; exact hPc, va_K.moved hW.alike hKc, hDc.weaken (fun _ _ _ _ => trivial)⟩⟩ rfl rfl hl.1 rfl (lv_room (Nat.le_of_ble_eq_true rfl)) dX7_loudestCrowd_53 ⟨Nat.le_of_ble_eq_true rfl, Nat.le_of_ble_eq_true rfl⟩) hS (fun q _ h => hFc q h) hFc (fun ra38 u t H1 locs ht hvm hwra38 hB hz1 hk1 hS => ?_)
              obtain ⟨hP1, hK1, hD1⟩ := hB
              rw [ht] at hP1
              obtain ⟨hP, hD⟩ := va_join (wr := [(h0, .inr (7, [.ref h1, .ref h2, .int v0, .int v1])), (h1, .inl (g0, 58, .inl f2)), (h2, .inl (g1, 8, .inl fn8))]) (w1 := []) hP hD [] [0, 1, 2] rfl rfl (by decide) (by decide) hk1 hFc hP1 hD1
              generalize H1 = H at hP hS ⊢
              have hP : va_P (dC, dI) vwCl [(h0, .inr (7, [.ref h1, .ref h2, .int v0, .int v1])), (h1, .inl (g0, 58, .inl f2)), (h2, .inl (g1, 8, .inl fn8))] H := hP
              have hD : va_D A [(h0, .inr (7, [.ref h1, .ref h2, .int v0, .int v1])), (h1, .inl (g0, 58, .inl f2)), (h2, .inl (g1, 8, .inl fn8))] := hD
              obtain ⟨wa_ra38, wb_ra38⟩ := hwra38
              have wa_ra38 : 0 ≤ ra38.toInt := wa_ra38
              have wb_ra38 : ra38.toInt ≤ 63 := wb_ra38
              have hJ40 : ∀ (x39 : Int32) (H : Heap) (locs : List Loc) (ls : Array Slot), 0 ≤ x39.toInt → x39.toInt ≤ 255 → va_P (dC, dI) vwCl [(h0, .inr (7, [.ref h1, .ref h2, .int v0, .int v1])), (h1, .inl (g0, 58, .inl f2)), (h2, .inl (g1, 8, .inl fn8))] H → va_D A [(h0, .inr (7, [.ref h1, .ref h2, .int v0, .int v1])), (h1, .inl (g0, 58, .inl f2)), (h2, .inl (g1, 8, .inl fn8))] → va_S A s.heap H locs → lv_has ls 3 [(2, .int x31), (1, .int x39), (0, .ref h0)] → W p l e ({ frames := 3, cells := 0, slots := 0, locals := 67 }) s m ([.ref h0] : List Value).toArray below meth c H locs 0 0 Q (F0 m 69 ls []) := by
                intro x39 H locs ls qa_x39 qb_x39 hP hD hS hl
                obtain ⟨t41, et41⟩ : ∃ y : Int32, y = x31 + 1 := ⟨_, rfl⟩
                have gt41 : t41.toInt = x31.toInt + (1) := pv_add (a := x31.toInt) (b := (1)) et41 rfl (by decide) (by omega) (by omega)
                refine lv_iinc (v := t41) (lv' := [(2, .int t41), (1, .int x39), (0, .ref h0)]) hx hb dX7_loudestCrowd_69 hl (k := 0) rfl (by rw [et41]; rfl) (by decide) rfl (fun ls hl => ?_)
                refine lv_goto (tgt := 41) hx hb dX7_loudestCrowd_72 (by decide) ?_
                exact ih t41 x39 H locs ls (by first | omega | decide) (by first | omega | decide) (by first | omega | decide) (by first | omega | decide) (by first | omega | (simp only [Int.toNat] at *; omega)) hP hD hS (lv_sub hl [0, 1, 2] rfl)
              refine lv_icmp_le (tgt := 69) hx hb dX7_loudestCrowd_56 (by decide) (fun c42 => ?_) (fun c42 => ?_)
              · skip
                have fc42 : ra37.toInt ≤ ra38.toInt := Int32.le_iff_toInt_le.mp c42
                have r1c42 := Int32.toInt_lt ra37
                have r2c42 := Int32.toInt_lt ra38
                have r3c42 := Int32.le_toInt ra37
                have r4c42 := Int32.le_toInt ra38
                exact hJ40 x32 H locs ls (by first | omega | decide) (by first | omega | decide) hP hD hS (lv_sub hl [0, 1, 2] rfl)
              · skip
                have fc42 : ¬ (ra37.toInt ≤ ra38.toInt) := fun h9 => c42 (Int32.le_iff_toInt_le.mpr h9)
                have r1c42 := Int32.toInt_lt ra37
                have r2c42 := Int32.toInt_lt ra38
                have r3c42 := Int32.le_toInt ra37
                have r4c42 := Int32.le_toInt ra38
                refine lv_aload_n hx hb dX7_loudestCrowd_59 rfl (lv_at hl 2 rfl) ?_
                refine lv_iload_n hx hb dX7_loudestCrowd_60 rfl (lv_at hl 0 rfl) ?_
                have hPc := hP.sub (ws' := [(h0, .inr (7, [.ref h1, .ref h2, .int v0, .int v1])), (h2, .inl (g1, 8, .inl fn8))]) [0, 2] rfl
                have hDc := hD.sub (ws' := [(h0, .inr (7, [.ref h1, .ref h2, .int v0, .int v1])), (h2, .inl (g1, 8, .inl fn8))]) [0, 2] (by decide) rfl
                have hKc := hK.sub (tys' := [(g1, .int)]) [1] rfl
                have hFc := va_free (wc := [(h0, .inr (7, [.ref h1, .ref h2, .int v0, .int v1])), (h2, .inl (g1, 8, .inl fn8))]) hD hS hA [0, 2] rfl
                refine va_calli (va_runV (As := [.int x31]) (rest := []) ⟨hx, hb, hml, hown, hts⟩ (k_X7_isCrowd l dC dI h0 h2 h1 v0 v1 g1 fn8 x31  H.size) (cwV 1 hts g_X7_loudestCrowd_2 rfl rfl rfl (by decide +kernel) ⟨Nat.le_of_ble_eq_true rfl, Nat.le_of_ble_eq_true rfl⟩) ⟨fun a U g mk q => by obtain ⟨q0, q1, qP, qK, qD⟩ := q; exact ⟨q0, q1, qP, va_K.moved (u := U) (U := U.calling g mk a) (Vm.Alike.refl U.vm) qK, qD⟩, va_recv hKc hPc (ci := 7) (q0 := 0) rfl rfl, fun U hU hW => ⟨rfl, by rw [hU], by rw [hU]; exact hPc, va_K.moved hW.alike hKc, hDc.weaken (fun _ _ _ _ => trivial)⟩⟩ rfl rfl hl.1 rfl (lv_room (Nat.le_of_ble_eq_true rfl)) dX7_loudestCrowd_61 ⟨Nat.le_of_ble_eq_true rfl, Nat.le_of_ble_eq_true rfl⟩) hS (fun q _ h => hFc q h) hFc (fun ra43 u t H1 locs ht hvm hwra43 hB hz1 hk1 hS => ?_)
                obtain ⟨hP1, hK1, hD1⟩ := hB
                rw [ht] at hP1
                obtain ⟨hP, hD⟩ := va_join (wr := [(h1, .inl (g0, 58, .inl f2))]) (w1 := [(h0, .inr (7, [.ref h1, .ref h2, .int v0, .int v1])), (h2, .inl (g1, 8, .inl fn8))]) hP hD [0, 2] [1] rfl rfl (by decide) (by decide) hk1 hFc hP1 hD1
                generalize H1 = H at hP hS ⊢
                have hP := hP.sub (ws' := [(h0, .inr (7, [.ref h1, .ref h2, .int v0, .int v1])), (h1, .inl (g0, 58, .inl f2)), (h2, .inl (g1, 8, .inl fn8))]) [1, 0, 2] rfl
                have hD := hD.sub (ws' := [(h0, .inr (7, [.ref h1, .ref h2, .int v0, .int v1])), (h1, .inl (g0, 58, .inl f2)), (h2, .inl (g1, 8, .inl fn8))]) [1, 0, 2] (by decide) rfl
                have hP : va_P (dC, dI) vwCl [(h0, .inr (7, [.ref h1, .ref h2, .int v0, .int v1])), (h1, .inl (g0, 58, .inl f2)), (h2, .inl (g1, 8, .inl fn8))] H := hP
                have hD : va_D A [(h0, .inr (7, [.ref h1, .ref h2, .int v0, .int v1])), (h1, .inl (g0, 58, .inl f2)), (h2, .inl (g1, 8, .inl fn8))] := hD
                obtain ⟨wa_ra43, wb_ra43⟩ := hwra43
                have wa_ra43 : 0 ≤ ra43.toInt := wa_ra43
                have wb_ra43 : ra43.toInt ≤ 1 := wb_ra43
                refine lv_if_eq (tgt := 69) hx hb dX7_loudestCrowd_64 (by decide) (fun c44 => ?_) (fun c44 => ?_)
                · skip
                  have fc44 : ra43.toInt = 0 := congrArg Int32.toInt c44
                  exact hJ40 x32 H locs ls (by first | omega | decide) (by first | omega | decide) hP hD hS (lv_sub hl [0, 1, 2] rfl)
                · skip
                  have fc44 : ¬ (ra43.toInt = 0) := fun h9 => c44 (Int32.toInt_inj.mp h9)
                  refine lv_iload_n hx hb dX7_loudestCrowd_67 rfl (lv_at hl 0 rfl) ?_
                  refine lv_istore_n (lv' := [(1, .int x31), (2, .int x31), (0, .ref h0)]) hx hb dX7_loudestCrowd_68 rfl hl (by decide) rfl (fun ls hl => ?_)
                  exact hJ40 x31 H locs ls (by first | omega | decide) (by first | omega | decide) hP hD hS (lv_sub hl [1, 0, 2] rfl)
        exact hL35 _ 1 0 H locs ls (by first | omega | decide) (by first | omega | decide) (by first | omega | decide) (by first | omega | decide) (Nat.lt_succ_self _) hP hD hS (lv_sub hl [0, 1, 2] rfl)
      · skip
        have fc12 : ¬ (8 ≤ x7.toInt) := fun h9 => c12 (Int32.le_iff_toInt_le.mpr h9)
        refine lv_aload_n hx hb dX7_loudestCrowd_8 rfl (lv_at hl 1 rfl) ?_
        refine va_get (D := (dC, dI)) (ci := 7) (v := .ref h2) (C := RX7) (T := TX7) (N := 4) hx hb hts (fun _ h => List.mem_cons_of_mem _ (List.mem_append_right _ h)) hown hK hP 0 rfl rfl 1 (by decide) (hts (.fieldLink RX7 15 "LeftArguments$Room" "perBag" "[I") (List.mem_cons_of_mem _ (List.mem_append_left _ (List.mem_of_getElem? (i := 8) rfl)))) (fun _ h9 => h9) rfl dX7_loudestCrowd_9 ?_
        refine lv_iload_n hx hb dX7_loudestCrowd_12 rfl (lv_at hl 0 rfl) ?_
        refine lv_aload_n hx hb dX7_loudestCrowd_13 rfl (lv_at hl 1 rfl) ?_
        refine lv_iload_n hx hb dX7_loudestCrowd_14 rfl (lv_at hl 0 rfl) ?_
        have hPc := hP.sub (ws' := [(h0, .inr (7, [.ref h1, .ref h2, .int v0, .int v1])), (h1, .inl (g0, 58, .inl f2))]) [0, 1] rfl
        have hDc := hD.sub (ws' := [(h0, .inr (7, [.ref h1, .ref h2, .int v0, .int v1])), (h1, .inl (g0, 58, .inl f2))]) [0, 1] (by decide) rfl
        have hKc := hK.sub (tys' := [(g0, .int)]) [0] rfl
        have hFc := va_free (wc := [(h0, .inr (7, [.ref h1, .ref h2, .int v0, .int v1])), (h1, .inl (g0, 58, .inl f2))]) hD hS hA [0, 1] rfl
        refine va_calli (va_runV (As := [.int x7]) (rest := [.int x7, .ref h2]) ⟨hx, hb, hml, hown, hts⟩ (k_X7_has l dC dI h0 h1 h2 v0 v1 g0 f2 x7  H.size) (cwV 1 hts g_X7_loudestCrowd_3 rfl rfl rfl (by decide +kernel) ⟨Nat.le_of_ble_eq_true rfl, Nat.le_of_ble_eq_true rfl⟩) ⟨fun a U g mk q => by obtain ⟨q0, q1, qP, qK, qD⟩ := q; exact ⟨q0, q1, qP, va_K.moved (u := U) (U := U.calling g mk a) (Vm.Alike.refl U.vm) qK, qD⟩, va_recv hKc hPc (ci := 7) (q0 := 0) rfl rfl, fun U hU hW => ⟨rfl, by rw [hU], by rw [hU]; exact hPc, va_K.moved hW.alike hKc, hDc.weaken (fun _ _ _ _ => trivial)⟩⟩ rfl rfl hl.1 rfl (lv_room (Nat.le_of_ble_eq_true rfl)) dX7_loudestCrowd_15 ⟨Nat.le_of_ble_eq_true rfl, Nat.le_of_ble_eq_true rfl⟩) hS (fun q _ h => hFc q h) hFc (fun ra45 u t H1 locs ht hvm hwra45 hB hz1 hk1 hS => ?_)
        obtain ⟨hP1, hK1, hD1⟩ := hB
        rw [ht] at hP1
        obtain ⟨hP, hD⟩ := va_join (wr := [(h2, .inl (g1, 8, .inl fn8))]) (w1 := [(h0, .inr (7, [.ref h1, .ref h2, .int v0, .int v1])), (h1, .inl (g0, 58, .inl f2))]) hP hD [0, 1] [2] rfl rfl (by decide) (by decide) hk1 hFc hP1 hD1
        generalize H1 = H at hP hS ⊢
        have hP := hP.sub (ws' := [(h0, .inr (7, [.ref h1, .ref h2, .int v0, .int v1])), (h1, .inl (g0, 58, .inl f2)), (h2, .inl (g1, 8, .inl fn8))]) [1, 2, 0] rfl
        have hD := hD.sub (ws' := [(h0, .inr (7, [.ref h1, .ref h2, .int v0, .int v1])), (h1, .inl (g0, 58, .inl f2)), (h2, .inl (g1, 8, .inl fn8))]) [1, 2, 0] (by decide) rfl
        have hP : va_P (dC, dI) vwCl [(h0, .inr (7, [.ref h1, .ref h2, .int v0, .int v1])), (h1, .inl (g0, 58, .inl f2)), (h2, .inl (g1, 8, .inl fn8))] H := hP
        have hD : va_D A [(h0, .inr (7, [.ref h1, .ref h2, .int v0, .int v1])), (h1, .inl (g0, 58, .inl f2)), (h2, .inl (g1, 8, .inl fn8))] := hD
        obtain ⟨wa_ra45, wb_ra45⟩ := hwra45
        have wa_ra45 : 0 ≤ ra45.toInt := wa_ra45
        have wb_ra45 : ra45.toInt ≤ 1 := wb_ra45
        have hJ47 : ∀ (x46 : Int32) (H : Heap) (locs : List Loc) (ls : Array Slot), va_P (dC, dI) vwCl [(h0, .inr (7, [.ref h1, .ref h2, .int v0, .int v1])), (h1, .inl (g0, 58, .inl f2)), (h2, .inl (g1, 8, .inl fn8))] H → va_D A [(h0, .inr (7, [.ref h1, .ref h2, .int v0, .int v1])), (h1, .inl (g0, 58, .inl f2)), (h2, .inl (g1, 8, .inl fn8))] → va_S A s.heap H locs → lv_has ls 3 [(1, .int x7), (0, .ref h0)] → W p l e ({ frames := 3, cells := 0, slots := 0, locals := 67 }) s m ([.ref h0] : List Value).toArray below meth c H locs 0 0 Q (F0 m 30 ls [.int x46, .int x7, .ref h2]) := by
          intro x46 H locs ls hP hD hS hl
          refine va_iast hx hb hK hP hD hS 2 1 rfl rfl (vp_in_iff.mpr ⟨by omega, by omega⟩) dX7_loudestCrowd_30 (fun H locs hP hD hS => ?_)
          obtain ⟨fn48, efn48⟩ : ∃ g : Nat → Int32, g = upd fn8 (Int32.toNatClampNeg x7) x46 := ⟨_, rfl⟩
          rw [← efn48] at hP hD
          have hP : va_P (dC, dI) vwCl [(h0, .inr (7, [.ref h1, .ref h2, .int v0, .int v1])), (h1, .inl (g0, 58, .inl f2)), (h2, .inl (g1, 8, .inl fn48))] H := hP
          have hD : va_D A [(h0, .inr (7, [.ref h1, .ref h2, .int v0, .int v1])), (h1, .inl (g0, 58, .inl f2)), (h2, .inl (g1, 8, .inl fn48))] := hD
          obtain ⟨t49, et49⟩ : ∃ y : Int32, y = x7 + 1 := ⟨_, rfl⟩
          have gt49 : t49.toInt = x7.toInt + (1) := pv_add (a := x7.toInt) (b := (1)) et49 rfl (by decide) (by omega) (by omega)
          refine lv_iinc (v := t49) (lv' := [(1, .int t49), (0, .ref h0)]) hx hb dX7_loudestCrowd_31 hl (k := 0) rfl (by rw [et49]; rfl) (by decide) rfl (fun ls hl => ?_)
          refine lv_goto (tgt := 2) hx hb dX7_loudestCrowd_34 (by decide) ?_
          exact ih t49 fn48 H locs ls (by first | omega | decide) (by first | omega | decide) (by first | omega | (simp only [Int.toNat] at *; omega)) hP hD hS (lv_sub hl [0, 1] rfl)
        refine lv_if_eq (tgt := 29) hx hb dX7_loudestCrowd_18 (by decide) (fun c50 => ?_) (fun c50 => ?_)
        · skip
          have fc50 : ra45.toInt = 0 := congrArg Int32.toInt c50
          refine lv_iconst (v := 0) hx hb dX7_loudestCrowd_29 (by decide) ?_
          exact hJ47 0 H locs ls hP hD hS (lv_sub hl [0, 1] rfl)
        · skip
          have fc50 : ¬ (ra45.toInt = 0) := fun h9 => c50 (Int32.toInt_inj.mp h9)
          refine lv_aload_n hx hb dX7_loudestCrowd_21 rfl (lv_at hl 1 rfl) ?_
          refine lv_iload_n hx hb dX7_loudestCrowd_22 rfl (lv_at hl 0 rfl) ?_
          have hPc := hP.sub (ws' := [(h0, .inr (7, [.ref h1, .ref h2, .int v0, .int v1])), (h1, .inl (g0, 58, .inl f2))]) [0, 1] rfl
          have hDc := hD.sub (ws' := [(h0, .inr (7, [.ref h1, .ref h2, .int v0, .int v1])), (h1, .inl (g0, 58, .inl f2))]) [0, 1] (by decide) rfl
          have hKc := hK.sub (tys' := [(g0, .int)]) [0] rfl
          have hFc := va_free (wc := [(h0, .inr (7, [.ref h1, .ref h2, .int v0, .int v1])), (h1, .inl (g0, 58, .inl f2))]) hD hS hA [0, 1] rfl
          refine va_calli (va_runV (As := [.int x7]) (rest := [.int x7, .ref h2]) ⟨hx, hb, hml, hown, hts⟩ (k_X7_circleOf l dC dI h0 h1 h2 v0 v1 g0 f2 x7  H.size) (cwV 1 hts g_X7_loudestCrowd_4 rfl rfl rfl (by decide +kernel) ⟨Nat.le_of_ble_eq_true rfl, Nat.le_of_ble_eq_true rfl⟩) ⟨fun a U g mk q => by obtain ⟨q0, q1, qP, qK, qD⟩ := q; exact ⟨q0, q1, qP, va_K.moved (u := U) (U := U.calling g mk a) (Vm.Alike.refl U.vm) qK, qD⟩, va_recv hKc hPc (ci := 7) (q0 := 0) rfl rfl, fun U hU hW => ⟨rfl, by rw [hU], by rw [hU]; exact hPc, va_K.moved hW.alike hKc, hDc.weaken (fun _ _ _ _ => trivial)⟩⟩ rfl rfl hl.1 rfl (lv_room (Nat.le_of_ble_eq_true rfl)) dX7_loudestCrowd_23 ⟨Nat.le_of_ble_eq_true rfl, Nat.le_of_ble_eq_true rfl⟩) hS (fun q _ h => hFc q h) hFc (fun ra51 u t H1 locs ht hvm hwra51 hB hz1 hk1 hS => ?_)
          obtain ⟨hP1, hK1, hD1⟩ := hB
          rw [ht] at hP1
          obtain ⟨hP, hD⟩ := va_join (wr := [(h2, .inl (g1, 8, .inl fn8))]) (w1 := [(h0, .inr (7, [.ref h1, .ref h2, .int v0, .int v1])), (h1, .inl (g0, 58, .inl f2))]) hP hD [0, 1] [2] rfl rfl (by decide) (by decide) hk1 hFc hP1 hD1
          generalize H1 = H at hP hS ⊢
          have hP := hP.sub (ws' := [(h0, .inr (7, [.ref h1, .ref h2, .int v0, .int v1])), (h1, .inl (g0, 58, .inl f2)), (h2, .inl (g1, 8, .inl fn8))]) [1, 2, 0] rfl
          have hD := hD.sub (ws' := [(h0, .inr (7, [.ref h1, .ref h2, .int v0, .int v1])), (h1, .inl (g0, 58, .inl f2)), (h2, .inl (g1, 8, .inl fn8))]) [1, 2, 0] (by decide) rfl
          have hP : va_P (dC, dI) vwCl [(h0, .inr (7, [.ref h1, .ref h2, .int v0, .int v1])), (h1, .inl (g0, 58, .inl f2)), (h2, .inl (g1, 8, .inl fn8))] H := hP
          have hD : va_D A [(h0, .inr (7, [.ref h1, .ref h2, .int v0, .int v1])), (h1, .inl (g0, 58, .inl f2)), (h2, .inl (g1, 8, .inl fn8))] := hD
          refine lv_goto (tgt := 30) hx hb dX7_loudestCrowd_26 (by decide) ?_
          exact hJ47 ra51 H locs ls hP hD hS (lv_sub hl [0, 1] rfl)
  exact hL11 _ 0 f3 H locs ls (by first | omega | decide) (by first | omega | decide) (Nat.lt_succ_self _) hP hD hS (lv_sub hl [0, 1] rfl)
def q_X11_roar : List Cond := .code yX11_roar cX11_roar 1 (some .int) :: (([.fieldLink RX11 42 "LeftArguments" "office" "LLeftArguments$Office;", .code yX5_stands cX5_stands 1 (some .boolean), .fieldLink RX5 24 "LeftArguments$Office" "stands" "Z", .initialized RX5, .instanceMethod yX5_stands, .selects RX5 yX5_stands yX5_stands, .methodLink RX11 159 yX5_stands, .fieldLink RX11 49 "LeftArguments" "room" "LLeftArguments$Room;", .code yX7_loudestCrowd cX7_loudestCrowd 3 (some .int), .code yJ6_bitCount_0f7a4 cJ6_bitCount_0f7a4 1 (some .int), .constant RJ6 265 (1431655765), .constant RJ6 266 (858993459), .constant RJ6 267 (252645135), .initialized RJ6, .static yJ6_bitCount_0f7a4, .methodLink RX7 120 yJ6_bitCount_0f7a4, .code yX7_isCrowd cX7_isCrowd 3 (some .boolean), .fieldLink RX7 15 "LeftArguments$Room" "perBag" "[I", .initialized RX7, .instanceMethod yX7_isCrowd, .selects RX7 yX7_isCrowd yX7_isCrowd, .methodLink RX7 125 yX7_isCrowd, .code yX7_has cX7_has 2 (some .boolean), .fieldLink RX7 11 "LeftArguments$Room" "cells" "[I", .instanceMethod yX7_has, .selects RX7 yX7_has yX7_has, .methodLink RX7 70 yX7_has, .code yX7_circleOf cX7_circleOf 4 (some .int), .code yX7_setOff cX7_setOff 3 (some .boolean), .code yX7_of cX7_of 3 (some .int), .instanceMethod yX7_of, .selects RX7 yX7_of yX7_of, .methodLink RX7 74 yX7_of, .methodLink RX7 110 Lib.Math.abs.name, .static Lib.Math.abs.name, .initialized "java/lang/Math", .code Lib.Math.abs.name Lib.Math.abs.code 1 (some .int), .instanceMethod yX7_setOff, .selects RX7 yX7_setOff yX7_setOff, .methodLink RX7 113 yX7_setOff, .instanceMethod yX7_circleOf, .selects RX7 yX7_circleOf yX7_circleOf, .methodLink RX7 117 yX7_circleOf, .instanceMethod yX7_loudestCrowd, .selects RX7 yX7_loudestCrowd yX7_loudestCrowd, .methodLink RX11 316 yX7_loudestCrowd] : List Cond) ++ wsX110 ++ wsX50 ++ wsX70)
set_option maxRecDepth 20000 in
theorem g_X11_roar_0 : GoodIn q_X11_roar (wsV RX11 159 RX5 yX5_stands q_X5_stands) := goodIn_app (goodIn_r _ [7, 5, 6, 4] (by decide +kernel) (by decide +kernel)) (goodIn_ca (goodIn_r (.code yX5_stands cX5_stands 1 (some .boolean) :: [.fieldLink RX5 24 "LeftArguments$Office" "stands" "Z"]) [2, 3] (by decide +kernel) (by decide +kernel)) (goodIn_sub (fun _ h => List.mem_cons_of_mem _ (List.mem_append_left _ (List.mem_append_right _ h))) gwX5))
set_option maxRecDepth 20000 in
theorem g_X11_roar_1 : GoodIn q_X11_roar (wsV RX11 316 RX7 yX7_loudestCrowd q_X7_loudestCrowd) := goodIn_app (goodIn_r _ [46, 44, 45, 19] (by decide +kernel) (by decide +kernel)) (goodIn_ca (goodIn_r (.code yX7_loudestCrowd cX7_loudestCrowd 3 (some .int) :: [.code yJ6_bitCount_0f7a4 cJ6_bitCount_0f7a4 1 (some .int), .constant RJ6 265 (1431655765), .constant RJ6 266 (858993459), .constant RJ6 267 (252645135), .initialized RJ6, .static yJ6_bitCount_0f7a4, .methodLink RX7 120 yJ6_bitCount_0f7a4, .code yX7_isCrowd cX7_isCrowd 3 (some .boolean), .fieldLink RX7 15 "LeftArguments$Room" "perBag" "[I", .initialized RX7, .instanceMethod yX7_isCrowd, .selects RX7 yX7_isCrowd yX7_isCrowd, .methodLink RX7 125 yX7_isCrowd, .code yX7_has cX7_has 2 (some .boolean), .fieldLink RX7 11 "LeftArguments$Room" "cells" "[I", .instanceMethod yX7_has, .selects RX7 yX7_has yX7_has, .methodLink RX7 70 yX7_has, .code yX7_circleOf cX7_circleOf 4 (some .int), .code yX7_setOff cX7_setOff 3 (some .boolean), .code yX7_of cX7_of 3 (some .int), .instanceMethod yX7_of, .selects RX7 yX7_of yX7_of, .methodLink RX7 74 yX7_of, .methodLink RX7 110 Lib.Math.abs.name, .static Lib.Math.abs.name, .initialized "java/lang/Math", .code Lib.Math.abs.name Lib.Math.abs.code 1 (some .int), .instanceMethod yX7_setOff, .selects RX7 yX7_setOff yX7_setOff, .methodLink RX7 113 yX7_setOff, .instanceMethod yX7_circleOf, .selects RX7 yX7_circleOf yX7_circleOf, .methodLink RX7 117 yX7_circleOf]) [9, 10, 11, 12, 13, 14, 15, 16, 17, 18, 19, 20, 21, 22, 23, 24, 25, 26, 27, 28, 29, 30, 31, 32, 33, 34, 35, 36, 37, 38, 39, 40, 41, 42, 43] (by decide +kernel) (by decide +kernel)) (goodIn_sub (fun _ h => List.mem_cons_of_mem _ (List.mem_append_right _ h)) gwX7))
set_option maxHeartbeats 4000000 in
set_option maxRecDepth 100000 in
theorem k_X11_roar (l : Launch) (dC : Nat → ClassId) (dI : Nat → Nat → Nat) (h0 : Nat) (h1 : Nat) (h2 : Nat) (h3 : Nat) (h4 : Nat) (r0 : Nat) (r1 : Nat) (r2 : Nat) (r3 : Nat) (r4 : Nat) (r5 : Nat) (r6 : Nat) (r7 : Nat) (r8 : Nat) (r9 : Nat) (r10 : Nat) (r11 : Nat) (v0 : Int32) (v1 : Int32) (w2 : Int64) (r12 : Nat) (r13 : Nat) (v3 : Int32) (v4 : Int32) (v5 : Int32) (v6 : Int32) (g0 : ClassId) (f7 : Nat → Int32) (g1 : ClassId) (f8 : Nat → Int32) (i_v0 : 0 ≤ v0.toInt ∧ v0.toInt ≤ 1) (i_v4 : 0 ≤ v4.toInt ∧ v4.toInt ≤ 1) (sz : Nat) : Met l yX11_roar q_X11_roar ({ frames := 4, cells := 0, slots := 0, locals := 89 }) (va_Pc [.ref h0] (fun U => U.heap.size = sz ∧ va_P (dC, dI) vwCl [(h0, .inr (11, [.ref r0, .ref r1, .ref r2, .ref r3, .ref h1, .ref h2, .ref r4, .ref r5, .ref r6, .ref r7, .ref r8, .ref r9, .ref r10, .ref r11, .int v0, .int v1, .long w2])), (h1, .inr (5, [.ref r12, .ref r13, .int v3, .int v4])), (h2, .inr (7, [.ref h3, .ref h4, .int v5, .int v6])), (h3, .inl (g0, 58, .inl f7)), (h4, .inl (g1, 8, .inl f8))] U.heap ∧ va_K (dC, dI) vwCl [(g0, .int), (g1, .int)] U ∧ va_D (fun _ => True) [(h0, .inr (11, [.ref r0, .ref r1, .ref r2, .ref r3, .ref h1, .ref h2, .ref r4, .ref r5, .ref r6, .ref r7, .ref r8, .ref r9, .ref r10, .ref r11, .int v0, .int v1, .long w2])), (h1, .inr (5, [.ref r12, .ref r13, .int v3, .int v4])), (h2, .inr (7, [.ref h3, .ref h4, .int v5, .int v6])), (h3, .inl (g0, 58, .inl f7)), (h4, .inl (g1, 8, .inl f8))])) (va_Qi (fun (r : Int32) (_ : Unit) => -1 ≤ r.toInt ∧ r.toInt ≤ 255) (fun (_ : Unit) (t : State) => ∃ (o_h4 : Nat → Int32), va_P (dC, dI) vwCl [(h0, .inr (11, [.ref r0, .ref r1, .ref r2, .ref r3, .ref h1, .ref h2, .ref r4, .ref r5, .ref r6, .ref r7, .ref r8, .ref r9, .ref r10, .ref r11, .int v0, .int v1, .long w2])), (h1, .inr (5, [.ref r12, .ref r13, .int v3, .int v4])), (h2, .inr (7, [.ref h3, .ref h4, .int v5, .int v6])), (h3, .inl (g0, 58, .inl f7)), (h4, .inl (g1, 8, .inl o_h4))] t.heap ∧ va_K (dC, dI) vwCl [] t ∧ va_D (va_A [(h0, .inr (11, [.ref r0, .ref r1, .ref r2, .ref r3, .ref h1, .ref h2, .ref r4, .ref r5, .ref r6, .ref r7, .ref r8, .ref r9, .ref r10, .ref r11, .int v0, .int v1, .long w2])), (h1, .inr (5, [.ref r12, .ref r13, .int v3, .int v4])), (h2, .inr (7, [.ref h3, .ref h4, .int v5, .int v6])), (h3, .inl (g0, 58, .inl f7)), (h4, .inl (g1, 8, .inl f8))] sz) [(h0, .inr (11, [.ref r0, .ref r1, .ref r2, .ref r3, .ref h1, .ref h2, .ref r4, .ref r5, .ref r6, .ref r7, .ref r8, .ref r9, .ref r10, .ref r11, .int v0, .int v1, .long w2])), (h1, .inr (5, [.ref r12, .ref r13, .int v3, .int v4])), (h2, .inr (7, [.ref h3, .ref h4, .int v5, .int v6])), (h3, .inl (g0, 58, .inl f7)), (h4, .inl (g1, 8, .inl o_h4))]) (va_A [(h0, .inr (11, [.ref r0, .ref r1, .ref r2, .ref r3, .ref h1, .ref h2, .ref r4, .ref r5, .ref r6, .ref r7, .ref r8, .ref r9, .ref r10, .ref r11, .int v0, .int v1, .long w2])), (h1, .inr (5, [.ref r12, .ref r13, .int v3, .int v4])), (h2, .inr (7, [.ref h3, .ref h4, .int v5, .int v6])), (h3, .inl (g0, 58, .inl f7)), (h4, .inl (g1, 8, .inl f8))] sz)) 0 0 (va_A [(h0, .inr (11, [.ref r0, .ref r1, .ref r2, .ref r3, .ref h1, .ref h2, .ref r4, .ref r5, .ref r6, .ref r7, .ref r8, .ref r9, .ref r10, .ref r11, .int v0, .int v1, .long w2])), (h1, .inr (5, [.ref r12, .ref r13, .int v3, .int v4])), (h2, .inr (7, [.ref h3, .ref h4, .int v5, .int v6])), (h3, .inl (g0, 58, .inl f7)), (h4, .inl (g1, 8, .inl f8))] sz) := by
  refine Met.ofW (cc := cX11_roar) (maxL := 1) (ret := (some .int)) (by decide) rfl ?_
  intro p e s m args below meth c s₁ B hml hv
  obtain ⟨i_v0a, i_v0b⟩ := i_v0
  obtain ⟨i_v4a, i_v4b⟩ := i_v4
  obtain ⟨rfl, hsz, hP, hK, hD0⟩ := hv
  have hx := B.exec
  have hb := B.bytes
  have hr := B.returns
  have hts := atoms_spec (ws := q_X11_roar) B.pre
  have hown : s.vm.findClass RX11 = some m.cls := findClass_of_methodNamed B.named
  have hlocks := B.notSynchronized
  subst hsz
  have hD := hD0.self (sz := s.heap.size)
  generalize hAe : va_A [(h0, .inr (11, [.ref r0, .ref r1, .ref r2, .ref r3, .ref h1, .ref h2, .ref r4, .ref r5, .ref r6, .ref r7, .ref r8, .ref r9, .ref r10, .ref r11, .int v0, .int v1, .long w2])), (h1, .inr (5, [.ref r12, .ref r13, .int v3, .int v4])), (h2, .inr (7, [.ref h3, .ref h4, .int v5, .int v6])), (h3, .inl (g0, 58, .inl f7)), (h4, .inl (g1, 8, .inl f8))] s.heap.size = A at hD ⊢
  have hA : ∀ q : Nat, s.heap.size ≤ q → A q := fun q h => by rw [← hAe]; exact Or.inr h
  have hS : va_S A s.heap s.heap [] := va_S.rf
  generalize hQ : (MQ below _ _ s 0 0 A) = Q
  have hl := lv_entry ([.ref h0]) (n := 1) (Nat.le_of_ble_eq_true rfl)
  rw [lg_entry_eq]
  generalize (lg_sl ([.ref h0]) ++ List.replicate (1 - (lg_sl ([.ref h0])).length) Slot.unset).toArray = ls at hl ⊢
  have hl : lv_has ls 1 [(0, .ref h0)] := hl
  obtain ⟨H, hH⟩ : ∃ H : Heap, H = s.heap := ⟨_, rfl⟩
  obtain ⟨locs, hlocs⟩ : ∃ y : List Loc, y = [] := ⟨_, rfl⟩
  have hS : va_S A s.heap H locs := by rw [hH, hlocs]; exact va_S.rf
  have hP : va_P (dC, dI) vwCl [(h0, .inr (11, [.ref r0, .ref r1, .ref r2, .ref r3, .ref h1, .ref h2, .ref r4, .ref r5, .ref r6, .ref r7, .ref r8, .ref r9, .ref r10, .ref r11, .int v0, .int v1, .long w2])), (h1, .inr (5, [.ref r12, .ref r13, .int v3, .int v4])), (h2, .inr (7, [.ref h3, .ref h4, .int v5, .int v6])), (h3, .inl (g0, 58, .inl f7)), (h4, .inl (g1, 8, .inl f8))] H := by rw [hH]; exact hP
  rw [← hH, ← hlocs]
  refine lv_aload_n hx hb dX11_roar_0 rfl (lv_at hl 0 rfl) ?_
  refine va_get (D := (dC, dI)) (ci := 11) (v := .ref h1) (C := RX11) (T := TX11) (N := 17) hx hb hts (fun _ h => List.mem_cons_of_mem _ (List.mem_append_left _ (List.mem_append_left _ (List.mem_append_right _ h)))) hown hK hP 0 rfl rfl 4 (by decide) (hts (.fieldLink RX11 42 "LeftArguments" "office" "LLeftArguments$Office;") (List.mem_cons_of_mem _ (List.mem_append_left _ (List.mem_append_left _ (List.mem_append_left _ (List.mem_of_getElem? (i := 0) rfl)))))) (fun _ h9 => h9) rfl dX11_roar_1 ?_
  have hPc := hP.sub (ws' := [(h1, .inr (5, [.ref r12, .ref r13, .int v3, .int v4]))]) [1] rfl
  have hDc := hD.sub (ws' := [(h1, .inr (5, [.ref r12, .ref r13, .int v3, .int v4]))]) [1] (by decide) rfl
  have hKc := hK.sub (tys' := []) [] rfl
  have hFc := va_free (wc := [(h1, .inr (5, [.ref r12, .ref r13, .int v3, .int v4]))]) hD hS hA [1] rfl
  refine va_calli (va_runV (As := []) (rest := []) ⟨hx, hb, hml, hown, hts⟩ (k_X5_stands l dC dI h1 r12 r13 v3 v4 ⟨by first | omega | decide, by first | omega | decide⟩ H.size) (cwV 0 hts g_X11_roar_0 rfl rfl rfl (by decide +kernel) ⟨Nat.le_of_ble_eq_true rfl, Nat.le_of_ble_eq_true rfl⟩) ⟨fun a U g mk q => by obtain ⟨q0, q1, qP, qK, qD⟩ := q; exact ⟨q0, q1, qP, va_K.moved (u := U) (U := U.calling g mk a) (Vm.Alike.refl U.vm) qK, qD⟩, va_recv hKc hPc (ci := 5) (q0 := 0) rfl rfl, fun U hU hW => ⟨rfl, by rw [hU], by rw [hU]; exact hPc, va_K.moved hW.alike hKc, hDc.weaken (fun _ _ _ _ => trivial)⟩⟩ rfl rfl hl.1 rfl (lv_room (Nat.le_of_ble_eq_true rfl)) dX11_roar_4 ⟨Nat.le_of_ble_eq_true rfl, Nat.le_of_ble_eq_true rfl⟩) hS (fun q _ h => hFc q h) hFc (fun ra1 u t H1 locs ht hvm hwra1 hB hz1 hk1 hS => ?_)
  obtain ⟨hP1, hK1, hD1⟩ := hB
  rw [ht] at hP1
  obtain ⟨hP, hD⟩ := va_join (wr := [(h0, .inr (11, [.ref r0, .ref r1, .ref r2, .ref r3, .ref h1, .ref h2, .ref r4, .ref r5, .ref r6, .ref r7, .ref r8, .ref r9, .ref r10, .ref r11, .int v0, .int v1, .long w2])), (h2, .inr (7, [.ref h3, .ref h4, .int v5, .int v6])), (h3, .inl (g0, 58, .inl f7)), (h4, .inl (g1, 8, .inl f8))]) (w1 := [(h1, .inr (5, [.ref r12, .ref r13, .int v3, .int v4]))]) hP hD [1] [0, 2, 3, 4] rfl rfl (by decide) (by decide) hk1 hFc hP1 hD1
  generalize H1 = H at hP hS ⊢
  have hP := hP.sub (ws' := [(h0, .inr (11, [.ref r0, .ref r1, .ref r2, .ref r3, .ref h1, .ref h2, .ref r4, .ref r5, .ref r6, .ref r7, .ref r8, .ref r9, .ref r10, .ref r11, .int v0, .int v1, .long w2])), (h1, .inr (5, [.ref r12, .ref r13, .int v3, .int v4])), (h2, .inr (7, [.ref h3, .ref h4, .int v5, .int v6])), (h3, .inl (g0, 58, .inl f7)), (h4, .inl (g1, 8, .inl f8))]) [0, 4, 1, 2, 3] rfl
  have hD := hD.sub (ws' := [(h0, .inr (11, [.ref r0, .ref r1, .ref r2, .ref r3, .ref h1, .ref h2, .ref r4, .ref r5, .ref r6, .ref r7, .ref r8, .ref r9, .ref r10, .ref r11, .int v0, .int v1, .long w2])), (h1, .inr (5, [.ref r12, .ref r13, .int v3, .int v4])), (h2, .inr (7, [.ref h3, .ref h4, .int v5, .int v6])), (h3, .inl (g0, 58, .inl f7)), (h4, .inl (g1, 8, .inl f8))]) [0, 4, 1, 2, 3] (by decide) rfl
  have hP : va_P (dC, dI) vwCl [(h0, .inr (11, [.ref r0, .ref r1, .ref r2, .ref r3, .ref h1, .ref h2, .ref r4, .ref r5, .ref r6, .ref r7, .ref r8, .ref r9, .ref r10, .ref r11, .int v0, .int v1, .long w2])), (h1, .inr (5, [.ref r12, .ref r13, .int v3, .int v4])), (h2, .inr (7, [.ref h3, .ref h4, .int v5, .int v6])), (h3, .inl (g0, 58, .inl f7)), (h4, .inl (g1, 8, .inl f8))] H := hP
  have hD : va_D A [(h0, .inr (11, [.ref r0, .ref r1, .ref r2, .ref r3, .ref h1, .ref h2, .ref r4, .ref r5, .ref r6, .ref r7, .ref r8, .ref r9, .ref r10, .ref r11, .int v0, .int v1, .long w2])), (h1, .inr (5, [.ref r12, .ref r13, .int v3, .int v4])), (h2, .inr (7, [.ref h3, .ref h4, .int v5, .int v6])), (h3, .inl (g0, 58, .inl f7)), (h4, .inl (g1, 8, .inl f8))] := hD
  obtain ⟨wa_ra1, wb_ra1⟩ := hwra1
  have wa_ra1 : 0 ≤ ra1.toInt := wa_ra1
  have wb_ra1 : ra1.toInt ≤ 1 := wb_ra1
  have hJ4 : ∀ (x2 : Int32) (fn3 : Nat → Int32) (H : Heap) (locs : List Loc) (ls : Array Slot), -1 ≤ x2.toInt → x2.toInt ≤ 255 → va_P (dC, dI) vwCl [(h0, .inr (11, [.ref r0, .ref r1, .ref r2, .ref r3, .ref h1, .ref h2, .ref r4, .ref r5, .ref r6, .ref r7, .ref r8, .ref r9, .ref r10, .ref r11, .int v0, .int v1, .long w2])), (h1, .inr (5, [.ref r12, .ref r13, .int v3, .int v4])), (h2, .inr (7, [.ref h3, .ref h4, .int v5, .int v6])), (h3, .inl (g0, 58, .inl f7)), (h4, .inl (g1, 8, .inl fn3))] H → va_D A [(h0, .inr (11, [.ref r0, .ref r1, .ref r2, .ref r3, .ref h1, .ref h2, .ref r4, .ref r5, .ref r6, .ref r7, .ref r8, .ref r9, .ref r10, .ref r11, .int v0, .int v1, .long w2])), (h1, .inr (5, [.ref r12, .ref r13, .int v3, .int v4])), (h2, .inr (7, [.ref h3, .ref h4, .int v5, .int v6])), (h3, .inl (g0, 58, .inl f7)), (h4, .inl (g1, 8, .inl fn3))] → va_S A s.heap H locs → lv_has ls 1 [(0, .ref h0)] → W p l e ({ frames := 4, cells := 0, slots := 0, locals := 89 }) s m ([.ref h0] : List Value).toArray below meth c H locs 0 0 Q (F0 m 21 ls [.int x2]) := by
    intro x2 fn3 H locs ls qa_x2 qb_x2 hP hD hS hl
    subst hQ
    have hP9 := hP.sub (ws' := [(h0, .inr (11, [.ref r0, .ref r1, .ref r2, .ref r3, .ref h1, .ref h2, .ref r4, .ref r5, .ref r6, .ref r7, .ref r8, .ref r9, .ref r10, .ref r11, .int v0, .int v1, .long w2])), (h1, .inr (5, [.ref r12, .ref r13, .int v3, .int v4])), (h2, .inr (7, [.ref h3, .ref h4, .int v5, .int v6])), (h3, .inl (g0, 58, .inl f7)), (h4, .inl (g1, 8, .inl fn3))]) [0, 1, 2, 3, 4] rfl
    have hD9 := hD.sub (ws' := [(h0, .inr (11, [.ref r0, .ref r1, .ref r2, .ref r3, .ref h1, .ref h2, .ref r4, .ref r5, .ref r6, .ref r7, .ref r8, .ref r9, .ref r10, .ref r11, .int v0, .int v1, .long w2])), (h1, .inr (5, [.ref r12, .ref r13, .int v3, .int v4])), (h2, .inr (7, [.ref h3, .ref h4, .int v5, .int v6])), (h3, .inl (g0, 58, .inl f7)), (h4, .inl (g1, 8, .inl fn3))]) [0, 1, 2, 3, 4] (by decide) rfl
    have hK9 := hK.sub (tys' := []) [] rfl
    exact W.iret (v := x2) hx hb hr (fun t ht hW => ⟨⟨x2, (), rfl, ⟨by first | omega | decide, by first | omega | decide⟩, fn3, by rw [ht]; exact hP9, va_K.moved hW.alike hK9, hD9⟩, hS.F ht⟩) hS.2.2 dX11_roar_21
  refine lv_if_eq (tgt := 20) hx hb dX11_roar_7 (by decide) (fun c5 => ?_) (fun c5 => ?_)
  · skip
    have fc5 : ra1.toInt = 0 := congrArg Int32.toInt c5
    refine lv_iconst (v := (-1)) hx hb dX11_roar_20 (by decide) ?_
    exact hJ4 ((-1)) f8 H locs ls (by first | omega | decide) (by first | omega | decide) hP hD hS (lv_sub hl [0] rfl)
  · skip
    have fc5 : ¬ (ra1.toInt = 0) := fun h9 => c5 (Int32.toInt_inj.mp h9)
    refine lv_aload_n hx hb dX11_roar_10 rfl (lv_at hl 0 rfl) ?_
    refine va_get (D := (dC, dI)) (ci := 11) (v := .ref h2) (C := RX11) (T := TX11) (N := 17) hx hb hts (fun _ h => List.mem_cons_of_mem _ (List.mem_append_left _ (List.mem_append_left _ (List.mem_append_right _ h)))) hown hK hP 0 rfl rfl 5 (by decide) (hts (.fieldLink RX11 49 "LeftArguments" "room" "LLeftArguments$Room;") (List.mem_cons_of_mem _ (List.mem_append_left _ (List.mem_append_left _ (List.mem_append_left _ (List.mem_of_getElem? (i := 7) rfl)))))) (fun _ h9 => h9) rfl dX11_roar_11 ?_
    have hPc := hP.sub (ws' := [(h2, .inr (7, [.ref h3, .ref h4, .int v5, .int v6])), (h3, .inl (g0, 58, .inl f7)), (h4, .inl (g1, 8, .inl f8))]) [2, 3, 4] rfl
    have hDc := hD.sub (ws' := [(h2, .inr (7, [.ref h3, .ref h4, .int v5, .int v6])), (h3, .inl (g0, 58, .inl f7)), (h4, .inl (g1, 8, .inl f8))]) [2, 3, 4] (by decide) rfl
    have hKc := hK.sub (tys' := [(g0, .int), (g1, .int)]) [0, 1] rfl
    have hFc := va_free (wc := [(h2, .inr (7, [.ref h3, .ref h4, .int v5, .int v6])), (h3, .inl (g0, 58, .inl f7)), (h4, .inl (g1, 8, .inl f8))]) hD hS hA [2, 3, 4] rfl
    refine va_calli (va_runV (As := []) (rest := []) ⟨hx, hb, hml, hown, hts⟩ (k_X7_loudestCrowd l dC dI h2 h3 h4 v5 v6 g0 f7 g1 f8  H.size) (cwV 0 hts g_X11_roar_1 rfl rfl rfl (by decide +kernel) ⟨Nat.le_of_ble_eq_true rfl, Nat.le_of_ble_eq_true rfl⟩) ⟨fun a U g mk q => by obtain ⟨q0, q1, qP, qK, qD⟩ := q; exact ⟨q0, q1, qP, va_K.moved (u := U) (U := U.calling g mk a) (Vm.Alike.refl U.vm) qK, qD⟩, va_recv hKc hPc (ci := 7) (q0 := 0) rfl rfl, fun U hU hW => ⟨rfl, by rw [hU], by rw [hU]; exact hPc, va_K.moved hW.alike hKc, hDc.weaken (fun _ _ _ _ => trivial)⟩⟩ rfl rfl hl.1 rfl (lv_room (Nat.le_of_ble_eq_true rfl)) dX11_roar_14 ⟨Nat.le_of_ble_eq_true rfl, Nat.le_of_ble_eq_true rfl⟩) hS (fun q _ h => hFc q h) hFc (fun ra6 u t H1 locs ht hvm hwra6 hB hz1 hk1 hS => ?_)
    obtain ⟨fn7, hP1, hK1, hD1⟩ := hB
    rw [ht] at hP1
    obtain ⟨hP, hD⟩ := va_join (wr := [(h0, .inr (11, [.ref r0, .ref r1, .ref r2, .ref r3, .ref h1, .ref h2, .ref r4, .ref r5, .ref r6, .ref r7, .ref r8, .ref r9, .ref r10, .ref r11, .int v0, .int v1, .long w2])), (h1, .inr (5, [.ref r12, .ref r13, .int v3, .int v4]))]) (w1 := [(h2, .inr (7, [.ref h3, .ref h4, .int v5, .int v6])), (h3, .inl (g0, 58, .inl f7)), (h4, .inl (g1, 8, .inl fn7))]) hP hD [2, 3, 4] [0, 1] rfl rfl (by decide) (by decide) hk1 hFc hP1 hD1
    generalize H1 = H at hP hS ⊢
    have hP : va_P (dC, dI) vwCl [(h0, .inr (11, [.ref r0, .ref r1, .ref r2, .ref r3, .ref h1, .ref h2, .ref r4, .ref r5, .ref r6, .ref r7, .ref r8, .ref r9, .ref r10, .ref r11, .int v0, .int v1, .long w2])), (h1, .inr (5, [.ref r12, .ref r13, .int v3, .int v4])), (h2, .inr (7, [.ref h3, .ref h4, .int v5, .int v6])), (h3, .inl (g0, 58, .inl f7)), (h4, .inl (g1, 8, .inl fn7))] H := hP
    have hD : va_D A [(h0, .inr (11, [.ref r0, .ref r1, .ref r2, .ref r3, .ref h1, .ref h2, .ref r4, .ref r5, .ref r6, .ref r7, .ref r8, .ref r9, .ref r10, .ref r11, .int v0, .int v1, .long w2])), (h1, .inr (5, [.ref r12, .ref r13, .int v3, .int v4])), (h2, .inr (7, [.ref h3, .ref h4, .int v5, .int v6])), (h3, .inl (g0, 58, .inl f7)), (h4, .inl (g1, 8, .inl fn7))] := hD
    obtain ⟨wa_ra6, wb_ra6⟩ := hwra6
    have wa_ra6 : 0 ≤ ra6.toInt := wa_ra6
    have wb_ra6 : ra6.toInt ≤ 255 := wb_ra6
    refine lv_goto (tgt := 21) hx hb dX11_roar_17 (by decide) ?_
    exact hJ4 ra6 fn7 H locs ls (by first | omega | decide) (by first | omega | decide) hP hD hS (lv_sub hl [0] rfl)
def q_X2_outcomeCell : List Cond := .code yX2_outcomeCell cX2_outcomeCell 3 (some .int) :: (([] : List Cond))
set_option maxHeartbeats 4000000 in
set_option maxRecDepth 100000 in
theorem k_X2_outcomeCell (l : Launch) (dC : Nat → ClassId) (dI : Nat → Nat → Nat) (v0 : Int32) (v1 : Int32) (v2 : Int32) (sz : Nat) : Met l yX2_outcomeCell q_X2_outcomeCell ({ frames := 0, cells := 0, slots := 0, locals := 0 }) (va_Pc [.int v0, .int v1, .int v2] (fun U => U.heap.size = sz ∧ va_P (dC, dI) vwCl [] U.heap ∧ va_K (dC, dI) vwCl [] U ∧ va_D (fun _ => True) [])) (va_Qi (fun (r : Int32) (_ : Unit) => True) (fun (_ : Unit) (t : State) => va_P (dC, dI) vwCl [] t.heap ∧ va_K (dC, dI) vwCl [] t ∧ va_D (va_A [] sz) []) (va_A [] sz)) 0 0 (va_A [] sz) := by
  refine Met.ofW (cc := cX2_outcomeCell) (maxL := 3) (ret := (some .int)) (by decide) rfl ?_
  intro p e s m args below meth c s₁ B hml hv
  obtain ⟨rfl, hsz, hP, hK, hD0⟩ := hv
  have hx := B.exec
  have hb := B.bytes
  have hr := B.returns
  have hts := atoms_spec (ws := q_X2_outcomeCell) B.pre
  have hown : s.vm.findClass RX2 = some m.cls := findClass_of_methodNamed B.named
  have hlocks := B.notSynchronized
  subst hsz
  have hD := hD0.self (sz := s.heap.size)
  generalize hAe : va_A [] s.heap.size = A at hD ⊢
  have hA : ∀ q : Nat, s.heap.size ≤ q → A q := fun q h => by rw [← hAe]; exact Or.inr h
  have hS : va_S A s.heap s.heap [] := va_S.rf
  generalize hQ : (MQ below _ _ s 0 0 A) = Q
  have hl := lv_entry ([.int v0, .int v1, .int v2]) (n := 3) (Nat.le_of_ble_eq_true rfl)
  rw [lg_entry_eq]
  generalize (lg_sl ([.int v0, .int v1, .int v2]) ++ List.replicate (3 - (lg_sl ([.int v0, .int v1, .int v2])).length) Slot.unset).toArray = ls at hl ⊢
  have hl : lv_has ls 3 [(0, .int v0), (1, .int v1), (2, .int v2)] := hl
  obtain ⟨H, hH⟩ : ∃ H : Heap, H = s.heap := ⟨_, rfl⟩
  obtain ⟨locs, hlocs⟩ : ∃ y : List Loc, y = [] := ⟨_, rfl⟩
  have hS : va_S A s.heap H locs := by rw [hH, hlocs]; exact va_S.rf
  have hP : va_P (dC, dI) vwCl [] H := by rw [hH]; exact hP
  rw [← hH, ← hlocs]
  refine lv_iload_n hx hb dX2_outcomeCell_0 rfl (lv_at hl 0 rfl) ?_
  refine lv_iconst (v := 4) hx hb dX2_outcomeCell_1 (by decide) ?_
  refine lv_imul hx hb dX2_outcomeCell_2 ?_
  refine lv_topi (fun t1 et1 => ?_)
  refine lv_iload_n hx hb dX2_outcomeCell_3 rfl (lv_at hl 1 rfl) ?_
  refine lv_iadd hx hb dX2_outcomeCell_4 ?_
  refine lv_topi (fun t2 et2 => ?_)
  refine lv_iconst (v := 2) hx hb dX2_outcomeCell_5 (by decide) ?_
  refine lv_imul hx hb dX2_outcomeCell_6 ?_
  refine lv_topi (fun t3 et3 => ?_)
  refine lv_iload_n hx hb dX2_outcomeCell_7 rfl (lv_at hl 2 rfl) ?_
  refine lv_iadd hx hb dX2_outcomeCell_8 ?_
  refine lv_topi (fun t4 et4 => ?_)
  subst hQ
  have hP9 := hP.sub (ws' := []) [] rfl
  have hD9 := hD.sub (ws' := []) [] (by decide) rfl
  have hK9 := hK.sub (tys' := []) [] rfl
  exact W.iret (v := t4) hx hb hr (fun t ht hW => ⟨⟨t4, (), rfl, trivial, by rw [ht]; exact hP9, va_K.moved hW.alike hK9, hD9⟩, hS.F ht⟩) hS.2.2 dX2_outcomeCell_9
def q_X3_comparing : List Cond := .code yX3_comparing cX3_comparing 1 (some .int) :: (([] : List Cond))
set_option maxHeartbeats 4000000 in
set_option maxRecDepth 100000 in
theorem k_X3_comparing (l : Launch) (dC : Nat → ClassId) (dI : Nat → Nat → Nat) (v0 : Int32) (sz : Nat) : Met l yX3_comparing q_X3_comparing ({ frames := 0, cells := 0, slots := 0, locals := 0 }) (va_Pc [.int v0] (fun U => U.heap.size = sz ∧ va_P (dC, dI) vwCl [] U.heap ∧ va_K (dC, dI) vwCl [] U ∧ va_D (fun _ => True) [])) (va_Qi (fun (r : Int32) (_ : Unit) => -1 ≤ r.toInt ∧ r.toInt ≤ 8) (fun (_ : Unit) (t : State) => va_P (dC, dI) vwCl [] t.heap ∧ va_K (dC, dI) vwCl [] t ∧ va_D (va_A [] sz) []) (va_A [] sz)) 0 0 (va_A [] sz) := by
  refine Met.ofW (cc := cX3_comparing) (maxL := 1) (ret := (some .int)) (by decide) rfl ?_
  intro p e s m args below meth c s₁ B hml hv
  obtain ⟨rfl, hsz, hP, hK, hD0⟩ := hv
  have hx := B.exec
  have hb := B.bytes
  have hr := B.returns
  have hts := atoms_spec (ws := q_X3_comparing) B.pre
  have hown : s.vm.findClass RX3 = some m.cls := findClass_of_methodNamed B.named
  have hlocks := B.notSynchronized
  subst hsz
  have hD := hD0.self (sz := s.heap.size)
  generalize hAe : va_A [] s.heap.size = A at hD ⊢
  have hA : ∀ q : Nat, s.heap.size ≤ q → A q := fun q h => by rw [← hAe]; exact Or.inr h
  have hS : va_S A s.heap s.heap [] := va_S.rf
  generalize hQ : (MQ below _ _ s 0 0 A) = Q
  have hl := lv_entry ([.int v0]) (n := 1) (Nat.le_of_ble_eq_true rfl)
  rw [lg_entry_eq]
  generalize (lg_sl ([.int v0]) ++ List.replicate (1 - (lg_sl ([.int v0])).length) Slot.unset).toArray = ls at hl ⊢
  have hl : lv_has ls 1 [(0, .int v0)] := hl
  obtain ⟨H, hH⟩ : ∃ H : Heap, H = s.heap := ⟨_, rfl⟩
  obtain ⟨locs, hlocs⟩ : ∃ y : List Loc, y = [] := ⟨_, rfl⟩
  have hS : va_S A s.heap H locs := by rw [hH, hlocs]; exact va_S.rf
  have hP : va_P (dC, dI) vwCl [] H := by rw [hH]; exact hP
  rw [← hH, ← hlocs]
  refine lv_iload_n hx hb dX3_comparing_0 rfl (lv_at hl 0 rfl) ?_
  by_cases c1 : v0 = 60
  · skip
    have fc1 : v0.toInt = 60 := congrArg Int32.toInt c1
    refine lv_tableIn (off := 30) (tgt := 31) hx hb dX3_comparing_1 (by rw [c1]; decide) (by rw [c1]; decide) (by rw [c1]; rfl) (by decide) ?_
    refine lv_bipush (v := 7) hx hb dX3_comparing_31 (by decide) ?_
    subst hQ
    have hP9 := hP.sub (ws' := []) [] rfl
    have hD9 := hD.sub (ws' := []) [] (by decide) rfl
    have hK9 := hK.sub (tys' := []) [] rfl
    exact W.iret (v := 7) hx hb hr (fun t ht hW => ⟨⟨7, (), rfl, ⟨by first | omega | decide, by first | omega | decide⟩, by rw [ht]; exact hP9, va_K.moved hW.alike hK9, hD9⟩, hS.F ht⟩) hS.2.2 dX3_comparing_33
  by_cases c2 : v0 = 61
  · skip
    have fc2 : v0.toInt = 61 := congrArg Int32.toInt c2
    refine lv_tableIn (off := 27) (tgt := 28) hx hb dX3_comparing_1 (by rw [c2]; decide) (by rw [c2]; decide) (by rw [c2]; rfl) (by decide) ?_
    refine lv_bipush (v := 6) hx hb dX3_comparing_28 (by decide) ?_
    subst hQ
    have hP9 := hP.sub (ws' := []) [] rfl
    have hD9 := hD.sub (ws' := []) [] (by decide) rfl
    have hK9 := hK.sub (tys' := []) [] rfl
    exact W.iret (v := 6) hx hb hr (fun t ht hW => ⟨⟨6, (), rfl, ⟨by first | omega | decide, by first | omega | decide⟩, by rw [ht]; exact hP9, va_K.moved hW.alike hK9, hD9⟩, hS.F ht⟩) hS.2.2 dX3_comparing_30
  by_cases c3 : v0 = 62
  · skip
    have fc3 : v0.toInt = 62 := congrArg Int32.toInt c3
    refine lv_tableIn (off := 33) (tgt := 34) hx hb dX3_comparing_1 (by rw [c3]; decide) (by rw [c3]; decide) (by rw [c3]; rfl) (by decide) ?_
    refine lv_bipush (v := 8) hx hb dX3_comparing_34 (by decide) ?_
    subst hQ
    have hP9 := hP.sub (ws' := []) [] rfl
    have hD9 := hD.sub (ws' := []) [] (by decide) rfl
    have hK9 := hK.sub (tys' := []) [] rfl
    exact W.iret (v := 8) hx hb hr (fun t ht hW => ⟨⟨8, (), rfl, ⟨by first | omega | decide, by first | omega | decide⟩, by rw [ht]; exact hP9, va_K.moved hW.alike hK9, hD9⟩, hS.F ht⟩) hS.2.2 dX3_comparing_36
  refine lv_tableOut (tgt := 37) hx hb dX3_comparing_1 (pv_tabL 60 2 rfl (fun j hj => by rcases (show j = 0 ∨ j = 1 ∨ j = 2 by omega) with rfl | rfl | rfl <;> assumption)) (by decide) ?_
  refine lv_iconst (v := (-1)) hx hb dX3_comparing_37 (by decide) ?_
  subst hQ
  have hP9 := hP.sub (ws' := []) [] rfl
  have hD9 := hD.sub (ws' := []) [] (by decide) rfl
  have hK9 := hK.sub (tys' := []) [] rfl
  exact W.iret (v := (-1)) hx hb hr (fun t ht hW => ⟨⟨(-1), (), rfl, ⟨by first | omega | decide, by first | omega | decide⟩, by rw [ht]; exact hP9, va_K.moved hW.alike hK9, hD9⟩, hS.F ht⟩) hS.2.2 dX3_comparing_38
def q_X5_hasTold : List Cond := .code yX5_hasTold cX5_hasTold 2 (some .boolean) :: (([.fieldLink RX5 20 "LeftArguments$Office" "toldCount" "I"] : List Cond) ++ wsX50)
set_option maxHeartbeats 4000000 in
set_option maxRecDepth 100000 in
theorem k_X5_hasTold (l : Launch) (dC : Nat → ClassId) (dI : Nat → Nat → Nat) (h0 : Nat) (r0 : Nat) (r1 : Nat) (v0 : Int32) (v1 : Int32) (v2 : Int32) (i_v1 : 0 ≤ v1.toInt ∧ v1.toInt ≤ 1) (sz : Nat) : Met l yX5_hasTold q_X5_hasTold ({ frames := 0, cells := 0, slots := 0, locals := 0 }) (va_Pc [.ref h0, .int v2] (fun U => U.heap.size = sz ∧ va_P (dC, dI) vwCl [(h0, .inr (5, [.ref r0, .ref r1, .int v0, .int v1]))] U.heap ∧ va_K (dC, dI) vwCl [] U ∧ va_D (fun _ => True) [(h0, .inr (5, [.ref r0, .ref r1, .int v0, .int v1]))])) (va_Qi (fun (r : Int32) (_ : Unit) => 0 ≤ r.toInt ∧ r.toInt ≤ 1) (fun (_ : Unit) (t : State) => va_P (dC, dI) vwCl [(h0, .inr (5, [.ref r0, .ref r1, .int v0, .int v1]))] t.heap ∧ va_K (dC, dI) vwCl [] t ∧ va_D (va_A [(h0, .inr (5, [.ref r0, .ref r1, .int v0, .int v1]))] sz) [(h0, .inr (5, [.ref r0, .ref r1, .int v0, .int v1]))]) (va_A [(h0, .inr (5, [.ref r0, .ref r1, .int v0, .int v1]))] sz)) 0 0 (va_A [(h0, .inr (5, [.ref r0, .ref r1, .int v0, .int v1]))] sz) := by
  refine Met.ofW (cc := cX5_hasTold) (maxL := 2) (ret := (some .boolean)) (by decide) rfl ?_
  intro p e s m args below meth c s₁ B hml hv
  obtain ⟨i_v1a, i_v1b⟩ := i_v1
  obtain ⟨rfl, hsz, hP, hK, hD0⟩ := hv
  have hx := B.exec
  have hb := B.bytes
  have hr := B.returns
  have hts := atoms_spec (ws := q_X5_hasTold) B.pre
  have hown : s.vm.findClass RX5 = some m.cls := findClass_of_methodNamed B.named
  have hlocks := B.notSynchronized
  subst hsz
  have hD := hD0.self (sz := s.heap.size)
  generalize hAe : va_A [(h0, .inr (5, [.ref r0, .ref r1, .int v0, .int v1]))] s.heap.size = A at hD ⊢
  have hA : ∀ q : Nat, s.heap.size ≤ q → A q := fun q h => by rw [← hAe]; exact Or.inr h
  have hS : va_S A s.heap s.heap [] := va_S.rf
  generalize hQ : (MQ below _ _ s 0 0 A) = Q
  have hl := lv_entry ([.ref h0, .int v2]) (n := 2) (Nat.le_of_ble_eq_true rfl)
  rw [lg_entry_eq]
  generalize (lg_sl ([.ref h0, .int v2]) ++ List.replicate (2 - (lg_sl ([.ref h0, .int v2])).length) Slot.unset).toArray = ls at hl ⊢
  have hl : lv_has ls 2 [(0, .ref h0), (1, .int v2)] := hl
  obtain ⟨H, hH⟩ : ∃ H : Heap, H = s.heap := ⟨_, rfl⟩
  obtain ⟨locs, hlocs⟩ : ∃ y : List Loc, y = [] := ⟨_, rfl⟩
  have hS : va_S A s.heap H locs := by rw [hH, hlocs]; exact va_S.rf
  have hP : va_P (dC, dI) vwCl [(h0, .inr (5, [.ref r0, .ref r1, .int v0, .int v1]))] H := by rw [hH]; exact hP
  rw [← hH, ← hlocs]
  refine lv_iload_n hx hb dX5_hasTold_0 rfl (lv_at hl 1 rfl) ?_
  have hJ2 : ∀ (x1 : Int32) (H : Heap) (locs : List Loc) (ls : Array Slot), 0 ≤ x1.toInt → x1.toInt ≤ 1 → va_P (dC, dI) vwCl [(h0, .inr (5, [.ref r0, .ref r1, .int v0, .int v1]))] H → va_D A [(h0, .inr (5, [.ref r0, .ref r1, .int v0, .int v1]))] → va_S A s.heap H locs → lv_has ls 2 [(0, .ref h0), (1, .int v2)] → W p l e ({ frames := 0, cells := 0, slots := 0, locals := 0 }) s m ([.ref h0, .int v2] : List Value).toArray below meth c H locs 0 0 Q (F0 m 17 ls [.int x1]) := by
    intro x1 H locs ls qa_x1 qb_x1 hP hD hS hl
    subst hQ
    have hP9 := hP.sub (ws' := [(h0, .inr (5, [.ref r0, .ref r1, .int v0, .int v1]))]) [0] rfl
    have hD9 := hD.sub (ws' := [(h0, .inr (5, [.ref r0, .ref r1, .int v0, .int v1]))]) [0] (by decide) rfl
    have hK9 := hK.sub (tys' := []) [] rfl
    exact W.zret (v := x1) hx hb hr (pv_nz (by omega) (by omega)) (fun t ht hW => ⟨⟨x1, (), rfl, ⟨by first | omega | decide, by first | omega | decide⟩, by rw [ht]; exact hP9, va_K.moved hW.alike hK9, hD9⟩, hS.F ht⟩) hS.2.2 dX5_hasTold_17
  refine lv_if_lt (tgt := 16) hx hb dX5_hasTold_1 (by decide) (fun c3 => ?_) (fun c3 => ?_)
  · skip
    have fc3 : v2.toInt < 0 := Int32.lt_iff_toInt_lt.mp c3
    refine lv_iconst (v := 0) hx hb dX5_hasTold_16 (by decide) ?_
    exact hJ2 0 H locs ls (by first | omega | decide) (by first | omega | decide) hP hD hS (lv_sub hl [0, 1] rfl)
  · skip
    have fc3 : ¬ (v2.toInt < 0) := fun h9 => c3 (Int32.lt_iff_toInt_lt.mpr h9)
    refine lv_iload_n hx hb dX5_hasTold_4 rfl (lv_at hl 1 rfl) ?_
    refine lv_aload_n hx hb dX5_hasTold_5 rfl (lv_at hl 0 rfl) ?_
    refine va_get (D := (dC, dI)) (ci := 5) (v := .int v0) (C := RX5) (T := TX5) (N := 4) hx hb hts (fun _ h => List.mem_cons_of_mem _ (List.mem_append_right _ h)) hown hK hP 0 rfl rfl 2 (by decide) (hts (.fieldLink RX5 20 "LeftArguments$Office" "toldCount" "I") (List.mem_cons_of_mem _ (List.mem_append_left _ (List.mem_of_getElem? (i := 0) rfl)))) (fun _ h9 => h9) rfl dX5_hasTold_6 ?_
    refine lv_icmp_ge (tgt := 16) hx hb dX5_hasTold_9 (by decide) (fun c4 => ?_) (fun c4 => ?_)
    · skip
      have fc4 : v0.toInt ≤ v2.toInt := Int32.le_iff_toInt_le.mp c4
      have r1c4 := Int32.toInt_lt v2
      have r2c4 := Int32.toInt_lt v0
      have r3c4 := Int32.le_toInt v2
      have r4c4 := Int32.le_toInt v0
      refine lv_iconst (v := 0) hx hb dX5_hasTold_16 (by decide) ?_
      exact hJ2 0 H locs ls (by first | omega | decide) (by first | omega | decide) hP hD hS (lv_sub hl [0, 1] rfl)
    · skip
      have fc4 : ¬ (v0.toInt ≤ v2.toInt) := fun h9 => c4 (Int32.le_iff_toInt_le.mpr h9)
      have r1c4 := Int32.toInt_lt v2
      have r2c4 := Int32.toInt_lt v0
      have r3c4 := Int32.le_toInt v2
      have r4c4 := Int32.le_toInt v0
      refine lv_iconst (v := 1) hx hb dX5_hasTold_12 (by decide) ?_
      refine lv_goto (tgt := 17) hx hb dX5_hasTold_13 (by decide) ?_
      exact hJ2 1 H locs ls (by first | omega | decide) (by first | omega | decide) hP hD hS (lv_sub hl [0, 1] rfl)
def q_X8_fewestByRoom : List Cond := .code yX8_fewestByRoom cX8_fewestByRoom 3 (some .int) :: (([.fieldLink RX8 37 "LeftArguments$Rows" "byRoom" "Z", .fieldLink RX8 34 "LeftArguments$Rows" "wide" "I", .code yX8_fewest cX8_fewest 3 (some .int), .fieldLink RX8 24 "LeftArguments$Rows" "loads" "[I", .code yJ7_fill_53178 cJ7_fill_53178 4 none, .initialized RJ7, .static yJ7_fill_53178, .methodLink RX8 58 yJ7_fill_53178, .fieldLink RX8 27 "LeftArguments$Rows" "standing" "[I", .code yX8_place cX8_place 5 (some .boolean), .fieldLink RX8 30 "LeftArguments$Rows" "bags" "I", .code yX8_standsWell cX8_standsWell 3 (some .boolean), .fieldLink RX8 15 "LeftArguments$Rows" "circles" "[I", .fieldLink RX8 9 "LeftArguments$Rows" "sizes" "[I", .initialized RX8, .instanceMethod yX8_standsWell, .selects RX8 yX8_standsWell yX8_standsWell, .methodLink RX8 68 yX8_standsWell, .fieldLink RX8 21 "LeftArguments$Rows" "chosen" "[I", .fieldLink RX8 18 "LeftArguments$Rows" "places" "[I", .methodLink RX8 72 Lib.Math.max.name, .static Lib.Math.max.name, .initialized "java/lang/Math", .code Lib.Math.max.name Lib.Math.max.code 2 (some .int), .instanceMethod yX8_place, .selects RX8 yX8_place yX8_place, .methodLink RX8 64 yX8_place, .instanceMethod yX8_fewest, .selects RX8 yX8_fewest yX8_fewest, .methodLink RX8 55 yX8_fewest] : List Cond) ++ wsX80)
set_option maxRecDepth 20000 in
theorem g_X8_fewestByRoom_0 : GoodIn q_X8_fewestByRoom (wsV RX8 55 RX8 yX8_fewest q_X8_fewest) := goodIn_app (goodIn_r _ [30, 28, 29, 15] (by decide +kernel) (by decide +kernel)) (goodIn_ca (goodIn_r (.code yX8_fewest cX8_fewest 3 (some .int) :: [.fieldLink RX8 24 "LeftArguments$Rows" "loads" "[I", .code yJ7_fill_53178 cJ7_fill_53178 4 none, .initialized RJ7, .static yJ7_fill_53178, .methodLink RX8 58 yJ7_fill_53178, .fieldLink RX8 27 "LeftArguments$Rows" "standing" "[I", .code yX8_place cX8_place 5 (some .boolean), .fieldLink RX8 30 "LeftArguments$Rows" "bags" "I", .code yX8_standsWell cX8_standsWell 3 (some .boolean), .fieldLink RX8 37 "LeftArguments$Rows" "byRoom" "Z", .fieldLink RX8 15 "LeftArguments$Rows" "circles" "[I", .fieldLink RX8 9 "LeftArguments$Rows" "sizes" "[I", .fieldLink RX8 34 "LeftArguments$Rows" "wide" "I", .initialized RX8, .instanceMethod yX8_standsWell, .selects RX8 yX8_standsWell yX8_standsWell, .methodLink RX8 68 yX8_standsWell, .fieldLink RX8 21 "LeftArguments$Rows" "chosen" "[I", .fieldLink RX8 18 "LeftArguments$Rows" "places" "[I", .methodLink RX8 72 Lib.Math.max.name, .static Lib.Math.max.name, .initialized "java/lang/Math", .code Lib.Math.max.name Lib.Math.max.code 2 (some .int), .instanceMethod yX8_place, .selects RX8 yX8_place yX8_place, .methodLink RX8 64 yX8_place]) [3, 4, 5, 6, 7, 8, 9, 10, 11, 12, 1, 13, 14, 2, 15, 16, 17, 18, 19, 20, 21, 22, 23, 24, 25, 26, 27] (by decide +kernel) (by decide +kernel)) (goodIn_sub (fun _ h => List.mem_cons_of_mem _ (List.mem_append_right _ h)) gwX8))
set_option maxHeartbeats 4000000 in
set_option maxRecDepth 100000 in
theorem k_X8_fewestByRoom (l : Launch) (dC : Nat → ClassId) (dI : Nat → Nat → Nat) (h0 : Nat) (h1 : Nat) (h2 : Nat) (h3 : Nat) (h4 : Nat) (h5 : Nat) (h6 : Nat) (v0 : Int32) (v1 : Int32) (v2 : Int32) (g0 : ClassId) (f3 : Nat → Int32) (g1 : ClassId) (f4 : Nat → Int32) (g2 : ClassId) (f5 : Nat → Int32) (g3 : ClassId) (f6 : Nat → Int32) (g4 : ClassId) (f7 : Nat → Int32) (g5 : ClassId) (f8 : Nat → Int32) (v9 : Int32) (v10 : Int32) (i_v2 : 0 ≤ v2.toInt ∧ v2.toInt ≤ 1) (sz : Nat) : Met l yX8_fewestByRoom q_X8_fewestByRoom ({ frames := 10, cells := 0, slots := 0, locals := 238 }) (va_Pc [.ref h0, .int v9, .int v10] (fun U => U.heap.size = sz ∧ va_P (dC, dI) vwCl [(h0, .inr (8, [.ref h1, .ref h2, .ref h3, .ref h4, .ref h5, .ref h6, .int v0, .int v1, .int v2])), (h1, .inl (g0, 8, .inl f3)), (h2, .inl (g1, 8, .inl f4)), (h3, .inl (g2, 8, .inl f5)), (h4, .inl (g3, 8, .inl f6)), (h5, .inl (g4, 8, .inl f7)), (h6, .inl (g5, 8, .inl f8))] U.heap ∧ va_K (dC, dI) vwCl [(g0, .int), (g1, .int), (g2, .int), (g3, .int), (g4, .int), (g5, .int)] U ∧ va_D (fun _ => True) [(h0, .inr (8, [.ref h1, .ref h2, .ref h3, .ref h4, .ref h5, .ref h6, .int v0, .int v1, .int v2])), (h1, .inl (g0, 8, .inl f3)), (h2, .inl (g1, 8, .inl f4)), (h3, .inl (g2, 8, .inl f5)), (h4, .inl (g3, 8, .inl f6)), (h5, .inl (g4, 8, .inl f7)), (h6, .inl (g5, 8, .inl f8))])) (va_Qi (fun (r : Int32) (_ : Unit) => -1 ≤ r.toInt ∧ r.toInt ≤ 8) (fun (_ : Unit) (t : State) => ∃ (o_h0_7 : Int32) (o_h0_8 : Int32) (o_h4 : Nat → Int32) (o_h5 : Nat → Int32) (o_h6 : Nat → Int32), 0 ≤ o_h0_8.toInt ∧ o_h0_8.toInt ≤ 1 ∧ va_P (dC, dI) vwCl [(h0, .inr (8, [.ref h1, .ref h2, .ref h3, .ref h4, .ref h5, .ref h6, .int v0, .int o_h0_7, .int o_h0_8])), (h1, .inl (g0, 8, .inl f3)), (h2, .inl (g1, 8, .inl f4)), (h3, .inl (g2, 8, .inl f5)), (h4, .inl (g3, 8, .inl o_h4)), (h5, .inl (g4, 8, .inl o_h5)), (h6, .inl (g5, 8, .inl o_h6))] t.heap ∧ va_K (dC, dI) vwCl [] t ∧ va_D (va_A [(h0, .inr (8, [.ref h1, .ref h2, .ref h3, .ref h4, .ref h5, .ref h6, .int v0, .int v1, .int v2])), (h1, .inl (g0, 8, .inl f3)), (h2, .inl (g1, 8, .inl f4)), (h3, .inl (g2, 8, .inl f5)), (h4, .inl (g3, 8, .inl f6)), (h5, .inl (g4, 8, .inl f7)), (h6, .inl (g5, 8, .inl f8))] sz) [(h0, .inr (8, [.ref h1, .ref h2, .ref h3, .ref h4, .ref h5, .ref h6, .int v0, .int o_h0_7, .int o_h0_8])), (h1, .inl (g0, 8, .inl f3)), (h2, .inl (g1, 8, .inl f4)), (h3, .inl (g2, 8, .inl f5)), (h4, .inl (g3, 8, .inl o_h4)), (h5, .inl (g4, 8, .inl o_h5)), (h6, .inl (g5, 8, .inl o_h6))]) (va_A [(h0, .inr (8, [.ref h1, .ref h2, .ref h3, .ref h4, .ref h5, .ref h6, .int v0, .int v1, .int v2])), (h1, .inl (g0, 8, .inl f3)), (h2, .inl (g1, 8, .inl f4)), (h3, .inl (g2, 8, .inl f5)), (h4, .inl (g3, 8, .inl f6)), (h5, .inl (g4, 8, .inl f7)), (h6, .inl (g5, 8, .inl f8))] sz)) 0 0 (va_A [(h0, .inr (8, [.ref h1, .ref h2, .ref h3, .ref h4, .ref h5, .ref h6, .int v0, .int v1, .int v2])), (h1, .inl (g0, 8, .inl f3)), (h2, .inl (g1, 8, .inl f4)), (h3, .inl (g2, 8, .inl f5)), (h4, .inl (g3, 8, .inl f6)), (h5, .inl (g4, 8, .inl f7)), (h6, .inl (g5, 8, .inl f8))] sz) := by
  refine Met.ofW (cc := cX8_fewestByRoom) (maxL := 3) (ret := (some .int)) (by decide) rfl ?_
  intro p e s m args below meth c s₁ B hml hv
  obtain ⟨i_v2a, i_v2b⟩ := i_v2
  obtain ⟨rfl, hsz, hP, hK, hD0⟩ := hv
  have hx := B.exec
  have hb := B.bytes
  have hr := B.returns
  have hts := atoms_spec (ws := q_X8_fewestByRoom) B.pre
  have hown : s.vm.findClass RX8 = some m.cls := findClass_of_methodNamed B.named
  have hlocks := B.notSynchronized
  subst hsz
  have hD := hD0.self (sz := s.heap.size)
  generalize hAe : va_A [(h0, .inr (8, [.ref h1, .ref h2, .ref h3, .ref h4, .ref h5, .ref h6, .int v0, .int v1, .int v2])), (h1, .inl (g0, 8, .inl f3)), (h2, .inl (g1, 8, .inl f4)), (h3, .inl (g2, 8, .inl f5)), (h4, .inl (g3, 8, .inl f6)), (h5, .inl (g4, 8, .inl f7)), (h6, .inl (g5, 8, .inl f8))] s.heap.size = A at hD ⊢
  have hA : ∀ q : Nat, s.heap.size ≤ q → A q := fun q h => by rw [← hAe]; exact Or.inr h
  have hS : va_S A s.heap s.heap [] := va_S.rf
  generalize hQ : (MQ below _ _ s 0 0 A) = Q
  have hl := lv_entry ([.ref h0, .int v9, .int v10]) (n := 3) (Nat.le_of_ble_eq_true rfl)
  rw [lg_entry_eq]
  generalize (lg_sl ([.ref h0, .int v9, .int v10]) ++ List.replicate (3 - (lg_sl ([.ref h0, .int v9, .int v10])).length) Slot.unset).toArray = ls at hl ⊢
  have hl : lv_has ls 3 [(0, .ref h0), (1, .int v9), (2, .int v10)] := hl
  obtain ⟨H, hH⟩ : ∃ H : Heap, H = s.heap := ⟨_, rfl⟩
  obtain ⟨locs, hlocs⟩ : ∃ y : List Loc, y = [] := ⟨_, rfl⟩
  have hS : va_S A s.heap H locs := by rw [hH, hlocs]; exact va_S.rf
  have hP : va_P (dC, dI) vwCl [(h0, .inr (8, [.ref h1, .ref h2, .ref h3, .ref h4, .ref h5, .ref h6, .int v0, .int v1, .int v2])), (h1, .inl (g0, 8, .inl f3)), (h2, .inl (g1, 8, .inl f4)), (h3, .inl (g2, 8, .inl f5)), (h4, .inl (g3, 8, .inl f6)), (h5, .inl (g4, 8, .inl f7)), (h6, .inl (g5, 8, .inl f8))] H := by rw [hH]; exact hP
  rw [← hH, ← hlocs]
  refine lv_aload_n hx hb dX8_fewestByRoom_0 rfl (lv_at hl 0 rfl) ?_
  refine lv_iconst (v := 1) hx hb dX8_fewestByRoom_1 (by decide) ?_
  refine va_put (D := (dC, dI)) (ci := 8) (v := .int 1) (ty := .boolean) (C := RX8) (T := TX8) (N := 9) hx hb hts (fun _ h => List.mem_cons_of_mem _ (List.mem_append_right _ h)) tyX8 tyX8_ok nmX8 hown hK hP hD hS 0 rfl rfl 8 (by decide) (hts (.fieldLink RX8 37 "LeftArguments$Rows" "byRoom" "Z") (List.mem_cons_of_mem _ (List.mem_append_left _ (List.mem_of_getElem? (i := 0) rfl)))) (fun _ h9 => h9) rfl (by decide +kernel) rfl rfl (Nat.le_of_ble_eq_true rfl) dX8_fewestByRoom_2 (fun H locs hP hD hS => ?_)
  have hP : va_P (dC, dI) vwCl [(h0, .inr (8, [.ref h1, .ref h2, .ref h3, .ref h4, .ref h5, .ref h6, .int v0, .int v1, .int 1])), (h1, .inl (g0, 8, .inl f3)), (h2, .inl (g1, 8, .inl f4)), (h3, .inl (g2, 8, .inl f5)), (h4, .inl (g3, 8, .inl f6)), (h5, .inl (g4, 8, .inl f7)), (h6, .inl (g5, 8, .inl f8))] H := hP
  have hD : va_D A [(h0, .inr (8, [.ref h1, .ref h2, .ref h3, .ref h4, .ref h5, .ref h6, .int v0, .int v1, .int 1])), (h1, .inl (g0, 8, .inl f3)), (h2, .inl (g1, 8, .inl f4)), (h3, .inl (g2, 8, .inl f5)), (h4, .inl (g3, 8, .inl f6)), (h5, .inl (g4, 8, .inl f7)), (h6, .inl (g5, 8, .inl f8))] := hD
  refine lv_aload_n hx hb dX8_fewestByRoom_5 rfl (lv_at hl 0 rfl) ?_
  refine lv_iload_n hx hb dX8_fewestByRoom_6 rfl (lv_at hl 2 rfl) ?_
  refine va_put (D := (dC, dI)) (ci := 8) (v := .int v10) (ty := .int) (C := RX8) (T := TX8) (N := 9) hx hb hts (fun _ h => List.mem_cons_of_mem _ (List.mem_append_right _ h)) tyX8 tyX8_ok nmX8 hown hK hP hD hS 0 rfl rfl 7 (by decide) (hts (.fieldLink RX8 34 "LeftArguments$Rows" "wide" "I") (List.mem_cons_of_mem _ (List.mem_append_left _ (List.mem_of_getElem? (i := 1) rfl)))) (fun _ h9 => h9) rfl (by decide +kernel) rfl rfl (Nat.le_of_ble_eq_true rfl) dX8_fewestByRoom_7 (fun H locs hP hD hS => ?_)
  have hP : va_P (dC, dI) vwCl [(h0, .inr (8, [.ref h1, .ref h2, .ref h3, .ref h4, .ref h5, .ref h6, .int v0, .int v10, .int 1])), (h1, .inl (g0, 8, .inl f3)), (h2, .inl (g1, 8, .inl f4)), (h3, .inl (g2, 8, .inl f5)), (h4, .inl (g3, 8, .inl f6)), (h5, .inl (g4, 8, .inl f7)), (h6, .inl (g5, 8, .inl f8))] H := hP
  have hD : va_D A [(h0, .inr (8, [.ref h1, .ref h2, .ref h3, .ref h4, .ref h5, .ref h6, .int v0, .int v10, .int 1])), (h1, .inl (g0, 8, .inl f3)), (h2, .inl (g1, 8, .inl f4)), (h3, .inl (g2, 8, .inl f5)), (h4, .inl (g3, 8, .inl f6)), (h5, .inl (g4, 8, .inl f7)), (h6, .inl (g5, 8, .inl f8))] := hD
  refine lv_aload_n hx hb dX8_fewestByRoom_10 rfl (lv_at hl 0 rfl) ?_
  refine lv_iload_n hx hb dX8_fewestByRoom_11 rfl (lv_at hl 1 rfl) ?_
  have hPc := hP.sub (ws' := [(h0, .inr (8, [.ref h1, .ref h2, .ref h3, .ref h4, .ref h5, .ref h6, .int v0, .int v10, .int 1])), (h1, .inl (g0, 8, .inl f3)), (h2, .inl (g1, 8, .inl f4)), (h3, .inl (g2, 8, .inl f5)), (h4, .inl (g3, 8, .inl f6)), (h5, .inl (g4, 8, .inl f7)), (h6, .inl (g5, 8, .inl f8))]) [0, 1, 2, 3, 4, 5, 6] rfl
  have hDc := hD.sub (ws' := [(h0, .inr (8, [.ref h1, .ref h2, .ref h3, .ref h4, .ref h5, .ref h6, .int v0, .int v10, .int 1])), (h1, .inl (g0, 8, .inl f3)), (h2, .inl (g1, 8, .inl f4)), (h3, .inl (g2, 8, .inl f5)), (h4, .inl (g3, 8, .inl f6)), (h5, .inl (g4, 8, .inl f7)), (h6, .inl (g5, 8, .inl f8))]) [0, 1, 2, 3, 4, 5, 6] (by decide) rfl
  have hKc := hK.sub (tys' := [(g0, .int), (g1, .int), (g2, .int), (g3, .int), (g4, .int), (g5, .int)]) [0, 1, 2, 3, 4, 5] rfl
  have hFc := va_free (wc := [(h0, .inr (8, [.ref h1, .ref h2, .ref h3, .ref h4, .ref h5, .ref h6, .int v0, .int v10, .int 1])), (h1, .inl (g0, 8, .inl f3)), (h2, .inl (g1, 8, .inl f4)), (h3, .inl (g2, 8, .inl f5)), (h4, .inl (g3, 8, .inl f6)), (h5, .inl (g4, 8, .inl f7)), (h6, .inl (g5, 8, .inl f8))]) hD hS hA [0, 1, 2, 3, 4, 5, 6] rfl
  refine va_calli (va_runV (As := [.int v9]) (rest := []) ⟨hx, hb, hml, hown, hts⟩ (k_X8_fewest l dC dI h0 h1 h2 h3 h4 h5 h6 v0 v10 1 g0 f3 g1 f4 g2 f5 g3 f6 g4 f7 g5 f8 v9 ⟨by first | omega | decide, by first | omega | decide⟩ H.size) (cwV 1 hts g_X8_fewestByRoom_0 rfl rfl rfl (by decide +kernel) ⟨Nat.le_of_ble_eq_true rfl, Nat.le_of_ble_eq_true rfl⟩) ⟨fun a U g mk q => by obtain ⟨q0, q1, qP, qK, qD⟩ := q; exact ⟨q0, q1, qP, va_K.moved (u := U) (U := U.calling g mk a) (Vm.Alike.refl U.vm) qK, qD⟩, va_recv hKc hPc (ci := 8) (q0 := 0) rfl rfl, fun U hU hW => ⟨rfl, by rw [hU], by rw [hU]; exact hPc, va_K.moved hW.alike hKc, hDc.weaken (fun _ _ _ _ => trivial)⟩⟩ rfl rfl hl.1 rfl (lv_room (Nat.le_of_ble_eq_true rfl)) dX8_fewestByRoom_12 ⟨Nat.le_of_ble_eq_true rfl, Nat.le_of_ble_eq_true rfl⟩) hS (fun q _ h => hFc q h) hFc (fun ra1 u t H1 locs ht hvm hwra1 hB hz1 hk1 hS => ?_)
  obtain ⟨fn2, fn3, fn4, hP1, hK1, hD1⟩ := hB
  rw [ht] at hP1
  obtain ⟨hP, hD⟩ := va_join (wr := []) (w1 := [(h0, .inr (8, [.ref h1, .ref h2, .ref h3, .ref h4, .ref h5, .ref h6, .int v0, .int v10, .int 1])), (h1, .inl (g0, 8, .inl f3)), (h2, .inl (g1, 8, .inl f4)), (h3, .inl (g2, 8, .inl f5)), (h4, .inl (g3, 8, .inl fn2)), (h5, .inl (g4, 8, .inl fn3)), (h6, .inl (g5, 8, .inl fn4))]) hP hD [0, 1, 2, 3, 4, 5, 6] [] rfl rfl (by decide) (by decide) hk1 hFc hP1 hD1
  generalize H1 = H at hP hS ⊢
  have hP : va_P (dC, dI) vwCl [(h0, .inr (8, [.ref h1, .ref h2, .ref h3, .ref h4, .ref h5, .ref h6, .int v0, .int v10, .int 1])), (h1, .inl (g0, 8, .inl f3)), (h2, .inl (g1, 8, .inl f4)), (h3, .inl (g2, 8, .inl f5)), (h4, .inl (g3, 8, .inl fn2)), (h5, .inl (g4, 8, .inl fn3)), (h6, .inl (g5, 8, .inl fn4))] H := hP
  have hD : va_D A [(h0, .inr (8, [.ref h1, .ref h2, .ref h3, .ref h4, .ref h5, .ref h6, .int v0, .int v10, .int 1])), (h1, .inl (g0, 8, .inl f3)), (h2, .inl (g1, 8, .inl f4)), (h3, .inl (g2, 8, .inl f5)), (h4, .inl (g3, 8, .inl fn2)), (h5, .inl (g4, 8, .inl fn3)), (h6, .inl (g5, 8, .inl fn4))] := hD
  obtain ⟨wa_ra1, wb_ra1⟩ := hwra1
  have wa_ra1 : -1 ≤ ra1.toInt := wa_ra1
  have wb_ra1 : ra1.toInt ≤ 8 := wb_ra1
  subst hQ
  have hP9 := hP.sub (ws' := [(h0, .inr (8, [.ref h1, .ref h2, .ref h3, .ref h4, .ref h5, .ref h6, .int v0, .int v10, .int 1])), (h1, .inl (g0, 8, .inl f3)), (h2, .inl (g1, 8, .inl f4)), (h3, .inl (g2, 8, .inl f5)), (h4, .inl (g3, 8, .inl fn2)), (h5, .inl (g4, 8, .inl fn3)), (h6, .inl (g5, 8, .inl fn4))]) [0, 1, 2, 3, 4, 5, 6] rfl
  have hD9 := hD.sub (ws' := [(h0, .inr (8, [.ref h1, .ref h2, .ref h3, .ref h4, .ref h5, .ref h6, .int v0, .int v10, .int 1])), (h1, .inl (g0, 8, .inl f3)), (h2, .inl (g1, 8, .inl f4)), (h3, .inl (g2, 8, .inl f5)), (h4, .inl (g3, 8, .inl fn2)), (h5, .inl (g4, 8, .inl fn3)), (h6, .inl (g5, 8, .inl fn4))]) [0, 1, 2, 3, 4, 5, 6] (by decide) rfl
  have hK9 := hK.sub (tys' := []) [] rfl
  exact W.iret (v := ra1) hx hb hr (fun t ht hW => ⟨⟨ra1, (), rfl, ⟨by first | omega | decide, by first | omega | decide⟩, v10, 1, fn2, fn3, fn4, by first | omega | decide, by first | omega | decide, by rw [ht]; exact hP9, va_K.moved hW.alike hK9, hD9⟩, hS.F ht⟩) hS.2.2 dX8_fewestByRoom_15
def q_X1_become : List Cond := .code yX1_become cX1_become 2 none :: (([.fieldLink RX1 11 "LeftArguments$Chronicle" "rows" "[I", .methodLink RX1 31 arraycopyName, .native arraycopyName, .static arraycopyName, .initialized "java/lang/System"] : List Cond) ++ wsX10)
set_option maxHeartbeats 4000000 in
set_option maxRecDepth 100000 in
theorem k_X1_become (l : Launch) (dC : Nat → ClassId) (dI : Nat → Nat → Nat) (h0 : Nat) (h1 : Nat) (h2 : Nat) (h3 : Nat) (g0 : ClassId) (f0 : Nat → Int32) (g1 : ClassId) (f1 : Nat → Int32) (sz : Nat) : Met l yX1_become q_X1_become ({ frames := 1, cells := 0, slots := 0, locals := 60 }) (va_Pc [.ref h0, .ref h2] (fun U => U.heap.size = sz ∧ va_P (dC, dI) vwCl [(h0, .inr (1, [.ref h1])), (h1, .inl (g0, 300, .inl f0)), (h2, .inr (1, [.ref h3])), (h3, .inl (g1, 300, .inl f1))] U.heap ∧ va_K (dC, dI) vwCl [(g0, .int), (g1, .int)] U ∧ va_D (fun _ => True) [(h0, .inr (1, [.ref h1])), (h1, .inl (g0, 300, .inl f0)), (h2, .inr (1, [.ref h3])), (h3, .inl (g1, 300, .inl f1))])) (va_Qv (fun (_ : Unit) => True) (fun (_ : Unit) (t : State) => ∃ (o_h1 : Nat → Int32), va_P (dC, dI) vwCl [(h0, .inr (1, [.ref h1])), (h1, .inl (g0, 300, .inl o_h1)), (h2, .inr (1, [.ref h3])), (h3, .inl (g1, 300, .inl f1))] t.heap ∧ va_K (dC, dI) vwCl [] t ∧ va_D (va_A [(h0, .inr (1, [.ref h1])), (h1, .inl (g0, 300, .inl f0)), (h2, .inr (1, [.ref h3])), (h3, .inl (g1, 300, .inl f1))] sz) [(h0, .inr (1, [.ref h1])), (h1, .inl (g0, 300, .inl o_h1)), (h2, .inr (1, [.ref h3])), (h3, .inl (g1, 300, .inl f1))]) (va_A [(h0, .inr (1, [.ref h1])), (h1, .inl (g0, 300, .inl f0)), (h2, .inr (1, [.ref h3])), (h3, .inl (g1, 300, .inl f1))] sz)) 0 0 (va_A [(h0, .inr (1, [.ref h1])), (h1, .inl (g0, 300, .inl f0)), (h2, .inr (1, [.ref h3])), (h3, .inl (g1, 300, .inl f1))] sz) := by
  refine Met.ofW (cc := cX1_become) (maxL := 2) (ret := none) (by decide) rfl ?_
  intro p e s m args below meth c s₁ B hml hv
  obtain ⟨rfl, hsz, hP, hK, hD0⟩ := hv
  have hx := B.exec
  have hb := B.bytes
  have hr := B.returns
  have hts := atoms_spec (ws := q_X1_become) B.pre
  have hown : s.vm.findClass RX1 = some m.cls := findClass_of_methodNamed B.named
  have hlocks := B.notSynchronized
  subst hsz
  have hD := hD0.self (sz := s.heap.size)
  generalize hAe : va_A [(h0, .inr (1, [.ref h1])), (h1, .inl (g0, 300, .inl f0)), (h2, .inr (1, [.ref h3])), (h3, .inl (g1, 300, .inl f1))] s.heap.size = A at hD ⊢
  have hA : ∀ q : Nat, s.heap.size ≤ q → A q := fun q h => by rw [← hAe]; exact Or.inr h
  have hS : va_S A s.heap s.heap [] := va_S.rf
  generalize hQ : (MQ below _ _ s 0 0 A) = Q
  have hl := lv_entry ([.ref h0, .ref h2]) (n := 2) (Nat.le_of_ble_eq_true rfl)
  rw [lg_entry_eq]
  generalize (lg_sl ([.ref h0, .ref h2]) ++ List.replicate (2 - (lg_sl ([.ref h0, .ref h2])).length) Slot.unset).toArray = ls at hl ⊢
  have hl : lv_has ls 2 [(0, .ref h0), (1, .ref h2)] := hl
  obtain ⟨H, hH⟩ : ∃ H : Heap, H = s.heap := ⟨_, rfl⟩
  obtain ⟨locs, hlocs⟩ : ∃ y : List Loc, y = [] := ⟨_, rfl⟩
  have hS : va_S A s.heap H locs := by rw [hH, hlocs]; exact va_S.rf
  have hP : va_P (dC, dI) vwCl [(h0, .inr (1, [.ref h1])), (h1, .inl (g0, 300, .inl f0)), (h2, .inr (1, [.ref h3])), (h3, .inl (g1, 300, .inl f1))] H := by rw [hH]; exact hP
  rw [← hH, ← hlocs]
  refine lv_aload_n hx hb dX1_become_0 rfl (lv_at hl 1 rfl) ?_
  refine va_get (D := (dC, dI)) (ci := 1) (v := .ref h3) (C := RX1) (T := TX1) (N := 1) hx hb hts (fun _ h => List.mem_cons_of_mem _ (List.mem_append_right _ h)) hown hK hP 2 rfl rfl 0 (by decide) (hts (.fieldLink RX1 11 "LeftArguments$Chronicle" "rows" "[I") (List.mem_cons_of_mem _ (List.mem_append_left _ (List.mem_of_getElem? (i := 0) rfl)))) (fun _ h9 => h9) rfl dX1_become_1 ?_
  refine lv_iconst (v := 0) hx hb dX1_become_4 (by decide) ?_
  refine lv_aload_n hx hb dX1_become_5 rfl (lv_at hl 0 rfl) ?_
  refine va_get (D := (dC, dI)) (ci := 1) (v := .ref h1) (C := RX1) (T := TX1) (N := 1) hx hb hts (fun _ h => List.mem_cons_of_mem _ (List.mem_append_right _ h)) hown hK hP 0 rfl rfl 0 (by decide) (hts (.fieldLink RX1 11 "LeftArguments$Chronicle" "rows" "[I") (List.mem_cons_of_mem _ (List.mem_append_left _ (List.mem_of_getElem? (i := 0) rfl)))) (fun _ h9 => h9) rfl dX1_become_6 ?_
  refine lv_iconst (v := 0) hx hb dX1_become_9 (by decide) ?_
  refine lv_aload_n hx hb dX1_become_10 rfl (lv_at hl 0 rfl) ?_
  refine va_get (D := (dC, dI)) (ci := 1) (v := .ref h1) (C := RX1) (T := TX1) (N := 1) hx hb hts (fun _ h => List.mem_cons_of_mem _ (List.mem_append_right _ h)) hown hK hP 0 rfl rfl 0 (by decide) (hts (.fieldLink RX1 11 "LeftArguments$Chronicle" "rows" "[I") (List.mem_cons_of_mem _ (List.mem_append_left _ (List.mem_of_getElem? (i := 0) rfl)))) (fun _ h9 => h9) rfl dX1_become_11 ?_
  refine va_alen (v := 300) hx hb hK hP 1 0 rfl rfl (by rfl) dX1_become_14 ?_
  refine va_copyi (ty := .int) hx hb (by rw [hml]; exact hl.1.symm) hown (hts (.methodLink RX1 31 arraycopyName) (List.mem_cons_of_mem _ (List.mem_append_left _ (List.mem_of_getElem? (i := 1) rfl)))) (hts (.native arraycopyName) (List.mem_cons_of_mem _ (List.mem_append_left _ (List.mem_of_getElem? (i := 2) rfl)))) (hts (.static arraycopyName) (List.mem_cons_of_mem _ (List.mem_append_left _ (List.mem_of_getElem? (i := 3) rfl)))) (hts (.initialized "java/lang/System") (List.mem_cons_of_mem _ (List.mem_append_left _ (List.mem_of_getElem? (i := 4) rfl)))) hK hP hD hS 3 1 1 0 rfl rfl rfl rfl rfl (by decide) (by decide) (by decide) (by decide) (by decide) (fun _ _ => rfl) (Nat.le_of_ble_eq_true rfl) (Nat.le_of_ble_eq_true rfl) dX1_become_15 (fun H locs hP hD hS => ?_)
  obtain ⟨fn1, efn1⟩ : ∃ g : Nat → Int32, g = va_cpy f1 f0 (Int32.toNatClampNeg 0) (Int32.toNatClampNeg 0) (Int32.toNatClampNeg 300) := ⟨_, rfl⟩
  rw [← efn1] at hP hD
  have hP : va_P (dC, dI) vwCl [(h0, .inr (1, [.ref h1])), (h1, .inl (g0, 300, .inl fn1)), (h2, .inr (1, [.ref h3])), (h3, .inl (g1, 300, .inl f1))] H := hP
  have hD : va_D A [(h0, .inr (1, [.ref h1])), (h1, .inl (g0, 300, .inl fn1)), (h2, .inr (1, [.ref h3])), (h3, .inl (g1, 300, .inl f1))] := hD
  subst hQ
  have hP9 := hP.sub (ws' := [(h0, .inr (1, [.ref h1])), (h1, .inl (g0, 300, .inl fn1)), (h2, .inr (1, [.ref h3])), (h3, .inl (g1, 300, .inl f1))]) [0, 1, 2, 3] rfl
  have hD9 := hD.sub (ws' := [(h0, .inr (1, [.ref h1])), (h1, .inl (g0, 300, .inl fn1)), (h2, .inr (1, [.ref h3])), (h3, .inl (g1, 300, .inl f1))]) [0, 1, 2, 3] (by decide) rfl
  have hK9 := hK.sub (tys' := []) [] rfl
  exact W.vret hx hb hr (fun t ht hW => ⟨⟨(), rfl, trivial, fn1, by rw [ht]; exact hP9, va_K.moved hW.alike hK9, hD9⟩, hS.F ht⟩) hS.2.2 dX1_become_18
def q_X11_status : List Cond := .code yX11_status cX11_status 2 (some .int) :: (([.fieldLink RX11 96 "LeftArguments" "refused" "[I"] : List Cond) ++ wsX110)
set_option maxHeartbeats 4000000 in
set_option maxRecDepth 100000 in
theorem k_X11_status (l : Launch) (dC : Nat → ClassId) (dI : Nat → Nat → Nat) (h0 : Nat) (h1 : Nat) (r0 : Nat) (r1 : Nat) (r2 : Nat) (r3 : Nat) (r4 : Nat) (r5 : Nat) (r6 : Nat) (r7 : Nat) (r8 : Nat) (r9 : Nat) (r10 : Nat) (r11 : Nat) (r12 : Nat) (v0 : Int32) (v1 : Int32) (w2 : Int64) (g0 : ClassId) (f3 : Nat → Int32) (v4 : Int32) (i_v0 : 0 ≤ v0.toInt ∧ v0.toInt ≤ 1) (sz : Nat) : Met l yX11_status q_X11_status ({ frames := 0, cells := 0, slots := 0, locals := 0 }) (va_Pc [.ref h0, .int v4] (fun U => U.heap.size = sz ∧ va_P (dC, dI) vwCl [(h0, .inr (11, [.ref r0, .ref r1, .ref r2, .ref r3, .ref r4, .ref r5, .ref r6, .ref r7, .ref r8, .ref r9, .ref r10, .ref r11, .ref r12, .ref h1, .int v0, .int v1, .long w2])), (h1, .inl (g0, 5, .inl f3))] U.heap ∧ va_K (dC, dI) vwCl [(g0, .int)] U ∧ va_D (fun _ => True) [(h0, .inr (11, [.ref r0, .ref r1, .ref r2, .ref r3, .ref r4, .ref r5, .ref r6, .ref r7, .ref r8, .ref r9, .ref r10, .ref r11, .ref r12, .ref h1, .int v0, .int v1, .long w2])), (h1, .inl (g0, 5, .inl f3))])) (va_Qi (fun (r : Int32) (_ : Unit) => True) (fun (_ : Unit) (t : State) => va_P (dC, dI) vwCl [(h0, .inr (11, [.ref r0, .ref r1, .ref r2, .ref r3, .ref r4, .ref r5, .ref r6, .ref r7, .ref r8, .ref r9, .ref r10, .ref r11, .ref r12, .ref h1, .int v0, .int v1, .long w2])), (h1, .inl (g0, 5, .inl f3))] t.heap ∧ va_K (dC, dI) vwCl [] t ∧ va_D (va_A [(h0, .inr (11, [.ref r0, .ref r1, .ref r2, .ref r3, .ref r4, .ref r5, .ref r6, .ref r7, .ref r8, .ref r9, .ref r10, .ref r11, .ref r12, .ref h1, .int v0, .int v1, .long w2])), (h1, .inl (g0, 5, .inl f3))] sz) [(h0, .inr (11, [.ref r0, .ref r1, .ref r2, .ref r3, .ref r4, .ref r5, .ref r6, .ref r7, .ref r8, .ref r9, .ref r10, .ref r11, .ref r12, .ref h1, .int v0, .int v1, .long w2])), (h1, .inl (g0, 5, .inl f3))]) (va_A [(h0, .inr (11, [.ref r0, .ref r1, .ref r2, .ref r3, .ref r4, .ref r5, .ref r6, .ref r7, .ref r8, .ref r9, .ref r10, .ref r11, .ref r12, .ref h1, .int v0, .int v1, .long w2])), (h1, .inl (g0, 5, .inl f3))] sz)) 0 0 (va_A [(h0, .inr (11, [.ref r0, .ref r1, .ref r2, .ref r3, .ref r4, .ref r5, .ref r6, .ref r7, .ref r8, .ref r9, .ref r10, .ref r11, .ref r12, .ref h1, .int v0, .int v1, .long w2])), (h1, .inl (g0, 5, .inl f3))] sz) := by
  refine Met.ofW (cc := cX11_status) (maxL := 2) (ret := (some .int)) (by decide) rfl ?_
  intro p e s m args below meth c s₁ B hml hv
  obtain ⟨i_v0a, i_v0b⟩ := i_v0
  obtain ⟨rfl, hsz, hP, hK, hD0⟩ := hv
  have hx := B.exec
  have hb := B.bytes
  have hr := B.returns
  have hts := atoms_spec (ws := q_X11_status) B.pre
  have hown : s.vm.findClass RX11 = some m.cls := findClass_of_methodNamed B.named
  have hlocks := B.notSynchronized
  subst hsz
  have hD := hD0.self (sz := s.heap.size)
  generalize hAe : va_A [(h0, .inr (11, [.ref r0, .ref r1, .ref r2, .ref r3, .ref r4, .ref r5, .ref r6, .ref r7, .ref r8, .ref r9, .ref r10, .ref r11, .ref r12, .ref h1, .int v0, .int v1, .long w2])), (h1, .inl (g0, 5, .inl f3))] s.heap.size = A at hD ⊢
  have hA : ∀ q : Nat, s.heap.size ≤ q → A q := fun q h => by rw [← hAe]; exact Or.inr h
  have hS : va_S A s.heap s.heap [] := va_S.rf
  generalize hQ : (MQ below _ _ s 0 0 A) = Q
  have hl := lv_entry ([.ref h0, .int v4]) (n := 2) (Nat.le_of_ble_eq_true rfl)
  rw [lg_entry_eq]
  generalize (lg_sl ([.ref h0, .int v4]) ++ List.replicate (2 - (lg_sl ([.ref h0, .int v4])).length) Slot.unset).toArray = ls at hl ⊢
  have hl : lv_has ls 2 [(0, .ref h0), (1, .int v4)] := hl
  obtain ⟨H, hH⟩ : ∃ H : Heap, H = s.heap := ⟨_, rfl⟩
  obtain ⟨locs, hlocs⟩ : ∃ y : List Loc, y = [] := ⟨_, rfl⟩
  have hS : va_S A s.heap H locs := by rw [hH, hlocs]; exact va_S.rf
  have hP : va_P (dC, dI) vwCl [(h0, .inr (11, [.ref r0, .ref r1, .ref r2, .ref r3, .ref r4, .ref r5, .ref r6, .ref r7, .ref r8, .ref r9, .ref r10, .ref r11, .ref r12, .ref h1, .int v0, .int v1, .long w2])), (h1, .inl (g0, 5, .inl f3))] H := by rw [hH]; exact hP
  rw [← hH, ← hlocs]
  refine lv_iload_n hx hb dX11_status_0 rfl (lv_at hl 1 rfl) ?_
  have hJ2 : ∀ (x1 : Int32) (H : Heap) (locs : List Loc) (ls : Array Slot), va_P (dC, dI) vwCl [(h0, .inr (11, [.ref r0, .ref r1, .ref r2, .ref r3, .ref r4, .ref r5, .ref r6, .ref r7, .ref r8, .ref r9, .ref r10, .ref r11, .ref r12, .ref h1, .int v0, .int v1, .long w2])), (h1, .inl (g0, 5, .inl f3))] H → va_D A [(h0, .inr (11, [.ref r0, .ref r1, .ref r2, .ref r3, .ref r4, .ref r5, .ref r6, .ref r7, .ref r8, .ref r9, .ref r10, .ref r11, .ref r12, .ref h1, .int v0, .int v1, .long w2])), (h1, .inl (g0, 5, .inl f3))] → va_S A s.heap H locs → lv_has ls 2 [(0, .ref h0), (1, .int v4)] → W p l e ({ frames := 0, cells := 0, slots := 0, locals := 0 }) s m ([.ref h0, .int v4] : List Value).toArray below meth c H locs 0 0 Q (F0 m 19 ls [.int x1]) := by
    intro x1 H locs ls hP hD hS hl
    subst hQ
    have hP9 := hP.sub (ws' := [(h0, .inr (11, [.ref r0, .ref r1, .ref r2, .ref r3, .ref r4, .ref r5, .ref r6, .ref r7, .ref r8, .ref r9, .ref r10, .ref r11, .ref r12, .ref h1, .int v0, .int v1, .long w2])), (h1, .inl (g0, 5, .inl f3))]) [0, 1] rfl
    have hD9 := hD.sub (ws' := [(h0, .inr (11, [.ref r0, .ref r1, .ref r2, .ref r3, .ref r4, .ref r5, .ref r6, .ref r7, .ref r8, .ref r9, .ref r10, .ref r11, .ref r12, .ref h1, .int v0, .int v1, .long w2])), (h1, .inl (g0, 5, .inl f3))]) [0, 1] (by decide) rfl
    have hK9 := hK.sub (tys' := []) [] rfl
    exact W.iret (v := x1) hx hb hr (fun t ht hW => ⟨⟨x1, (), rfl, trivial, by rw [ht]; exact hP9, va_K.moved hW.alike hK9, hD9⟩, hS.F ht⟩) hS.2.2 dX11_status_19
  refine lv_if_lt (tgt := 9) hx hb dX11_status_1 (by decide) (fun c3 => ?_) (fun c3 => ?_)
  · skip
    have fc3 : v4.toInt < 0 := Int32.lt_iff_toInt_lt.mp c3
    refine lv_iconst (v := (-1)) hx hb dX11_status_9 (by decide) ?_
    refine lv_goto (tgt := 19) hx hb dX11_status_10 (by decide) ?_
    exact hJ2 ((-1)) H locs ls hP hD hS (lv_sub hl [0, 1] rfl)
  · skip
    have fc3 : ¬ (v4.toInt < 0) := fun h9 => c3 (Int32.lt_iff_toInt_lt.mpr h9)
    refine lv_iload_n hx hb dX11_status_4 rfl (lv_at hl 1 rfl) ?_
    refine lv_iconst (v := 5) hx hb dX11_status_5 (by decide) ?_
    refine lv_icmp_lt (tgt := 13) hx hb dX11_status_6 (by decide) (fun c4 => ?_) (fun c4 => ?_)
    · skip
      have fc4 : v4.toInt < 5 := Int32.lt_iff_toInt_lt.mp c4
      refine lv_aload_n hx hb dX11_status_13 rfl (lv_at hl 0 rfl) ?_
      refine va_get (D := (dC, dI)) (ci := 11) (v := .ref h1) (C := RX11) (T := TX11) (N := 17) hx hb hts (fun _ h => List.mem_cons_of_mem _ (List.mem_append_right _ h)) hown hK hP 0 rfl rfl 13 (by decide) (hts (.fieldLink RX11 96 "LeftArguments" "refused" "[I") (List.mem_cons_of_mem _ (List.mem_append_left _ (List.mem_of_getElem? (i := 0) rfl)))) (fun _ h9 => h9) rfl dX11_status_14 ?_
      refine lv_iload_n hx hb dX11_status_17 rfl (lv_at hl 1 rfl) ?_
      refine va_iald hx hb hK hP 1 0 rfl rfl (vp_in_iff.mpr ⟨by omega, by omega⟩) dX11_status_18 ?_
      refine lv_topi (fun t5 et5 => ?_)
      exact hJ2 t5 H locs ls hP hD hS (lv_sub hl [0, 1] rfl)
    · skip
      have fc4 : ¬ (v4.toInt < 5) := fun h9 => c4 (Int32.lt_iff_toInt_lt.mpr h9)
      refine lv_iconst (v := (-1)) hx hb dX11_status_9 (by decide) ?_
      refine lv_goto (tgt := 19) hx hb dX11_status_10 (by decide) ?_
      exact hJ2 ((-1)) H locs ls hP hD hS (lv_sub hl [0, 1] rfl)
def q_X7_copyFrom : List Cond := .code yX7_copyFrom cX7_copyFrom 3 none :: (([.fieldLink RX7 11 "LeftArguments$Room" "cells" "[I", .methodLink RX7 52 arraycopyName, .native arraycopyName, .static arraycopyName, .initialized "java/lang/System"] : List Cond) ++ wsX70)
set_option maxHeartbeats 4000000 in
set_option maxRecDepth 100000 in
theorem k_X7_copyFrom (l : Launch) (dC : Nat → ClassId) (dI : Nat → Nat → Nat) (h0 : Nat) (h1 : Nat) (h2 : Nat) (r0 : Nat) (v0 : Int32) (v1 : Int32) (g0 : ClassId) (f2 : Nat → Int32) (g1 : ClassId) (f3 : Nat → Int32) (v4 : Int32) (sz : Nat) : Met l yX7_copyFrom q_X7_copyFrom ({ frames := 1, cells := 0, slots := 0, locals := 60 }) (va_Pc [.ref h0, .ref h2, .int v4] (fun U => U.heap.size = sz ∧ va_P (dC, dI) vwCl [(h0, .inr (7, [.ref h1, .ref r0, .int v0, .int v1])), (h1, .inl (g0, 58, .inl f2)), (h2, .inl (g1, 2320, .inl f3))] U.heap ∧ va_K (dC, dI) vwCl [(g0, .int), (g1, .int)] U ∧ va_D (fun _ => True) [(h0, .inr (7, [.ref h1, .ref r0, .int v0, .int v1])), (h1, .inl (g0, 58, .inl f2)), (h2, .inl (g1, 2320, .inl f3))])) (va_Qv (fun (_ : Unit) => True) (fun (_ : Unit) (t : State) => ∃ (o_h1 : Nat → Int32), va_P (dC, dI) vwCl [(h0, .inr (7, [.ref h1, .ref r0, .int v0, .int v1])), (h1, .inl (g0, 58, .inl o_h1)), (h2, .inl (g1, 2320, .inl f3))] t.heap ∧ va_K (dC, dI) vwCl [] t ∧ va_D (va_A [(h0, .inr (7, [.ref h1, .ref r0, .int v0, .int v1])), (h1, .inl (g0, 58, .inl f2)), (h2, .inl (g1, 2320, .inl f3))] sz) [(h0, .inr (7, [.ref h1, .ref r0, .int v0, .int v1])), (h1, .inl (g0, 58, .inl o_h1)), (h2, .inl (g1, 2320, .inl f3))]) (va_A [(h0, .inr (7, [.ref h1, .ref r0, .int v0, .int v1])), (h1, .inl (g0, 58, .inl f2)), (h2, .inl (g1, 2320, .inl f3))] sz)) 0 0 (va_A [(h0, .inr (7, [.ref h1, .ref r0, .int v0, .int v1])), (h1, .inl (g0, 58, .inl f2)), (h2, .inl (g1, 2320, .inl f3))] sz) := by
  refine Met.ofW (cc := cX7_copyFrom) (maxL := 3) (ret := none) (by decide) rfl ?_
  intro p e s m args below meth c s₁ B hml hv
  obtain ⟨rfl, hsz, hP, hK, hD0⟩ := hv
  have hx := B.exec
  have hb := B.bytes
  have hr := B.returns
  have hts := atoms_spec (ws := q_X7_copyFrom) B.pre
  have hown : s.vm.findClass RX7 = some m.cls := findClass_of_methodNamed B.named
  have hlocks := B.notSynchronized
  subst hsz
  have hD := hD0.self (sz := s.heap.size)
  generalize hAe : va_A [(h0, .inr (7, [.ref h1, .ref r0, .int v0, .int v1])), (h1, .inl (g0, 58, .inl f2)), (h2, .inl (g1, 2320, .inl f3))] s.heap.size = A at hD ⊢
  have hA : ∀ q : Nat, s.heap.size ≤ q → A q := fun q h => by rw [← hAe]; exact Or.inr h
  have hS : va_S A s.heap s.heap [] := va_S.rf
  generalize hQ : (MQ below _ _ s 0 0 A) = Q
  have hl := lv_entry ([.ref h0, .ref h2, .int v4]) (n := 3) (Nat.le_of_ble_eq_true rfl)
  rw [lg_entry_eq]
  generalize (lg_sl ([.ref h0, .ref h2, .int v4]) ++ List.replicate (3 - (lg_sl ([.ref h0, .ref h2, .int v4])).length) Slot.unset).toArray = ls at hl ⊢
  have hl : lv_has ls 3 [(0, .ref h0), (1, .ref h2), (2, .int v4)] := hl
  obtain ⟨H, hH⟩ : ∃ H : Heap, H = s.heap := ⟨_, rfl⟩
  obtain ⟨locs, hlocs⟩ : ∃ y : List Loc, y = [] := ⟨_, rfl⟩
  have hS : va_S A s.heap H locs := by rw [hH, hlocs]; exact va_S.rf
  have hP : va_P (dC, dI) vwCl [(h0, .inr (7, [.ref h1, .ref r0, .int v0, .int v1])), (h1, .inl (g0, 58, .inl f2)), (h2, .inl (g1, 2320, .inl f3))] H := by rw [hH]; exact hP
  rw [← hH, ← hlocs]
  refine lv_iload_n hx hb dX7_copyFrom_0 rfl (lv_at hl 2 rfl) ?_
  have hJ2 : ∀ (fn1 : Nat → Int32) (H : Heap) (locs : List Loc) (ls : Array Slot), va_P (dC, dI) vwCl [(h0, .inr (7, [.ref h1, .ref r0, .int v0, .int v1])), (h1, .inl (g0, 58, .inl fn1)), (h2, .inl (g1, 2320, .inl f3))] H → va_D A [(h0, .inr (7, [.ref h1, .ref r0, .int v0, .int v1])), (h1, .inl (g0, 58, .inl fn1)), (h2, .inl (g1, 2320, .inl f3))] → va_S A s.heap H locs → lv_has ls 3 [(0, .ref h0), (1, .ref h2), (2, .int v4)] → W p l e ({ frames := 1, cells := 0, slots := 0, locals := 60 }) s m ([.ref h0, .ref h2, .int v4] : List Value).toArray below meth c H locs 0 0 Q (F0 m 25 ls []) := by
    intro fn1 H locs ls hP hD hS hl
    subst hQ
    have hP9 := hP.sub (ws' := [(h0, .inr (7, [.ref h1, .ref r0, .int v0, .int v1])), (h1, .inl (g0, 58, .inl fn1)), (h2, .inl (g1, 2320, .inl f3))]) [0, 1, 2] rfl
    have hD9 := hD.sub (ws' := [(h0, .inr (7, [.ref h1, .ref r0, .int v0, .int v1])), (h1, .inl (g0, 58, .inl fn1)), (h2, .inl (g1, 2320, .inl f3))]) [0, 1, 2] (by decide) rfl
    have hK9 := hK.sub (tys' := []) [] rfl
    exact W.vret hx hb hr (fun t ht hW => ⟨⟨(), rfl, trivial, fn1, by rw [ht]; exact hP9, va_K.moved hW.alike hK9, hD9⟩, hS.F ht⟩) hS.2.2 dX7_copyFrom_25
  refine lv_if_lt (tgt := 25) hx hb dX7_copyFrom_1 (by decide) (fun c3 => ?_) (fun c3 => ?_)
  · skip
    have fc3 : v4.toInt < 0 := Int32.lt_iff_toInt_lt.mp c3
    exact hJ2 f2 H locs ls hP hD hS (lv_sub hl [0, 1, 2] rfl)
  · skip
    have fc3 : ¬ (v4.toInt < 0) := fun h9 => c3 (Int32.lt_iff_toInt_lt.mpr h9)
    refine lv_iload_n hx hb dX7_copyFrom_4 rfl (lv_at hl 2 rfl) ?_
    refine lv_aload_n hx hb dX7_copyFrom_5 rfl (lv_at hl 1 rfl) ?_
    refine va_alen (v := 2320) hx hb hK hP 2 1 rfl rfl (by rfl) dX7_copyFrom_6 ?_
    refine lv_bipush (v := 58) hx hb dX7_copyFrom_7 (by decide) ?_
    refine lv_isub hx hb dX7_copyFrom_9 ?_
    refine lv_topi (fun tv4 etv4 => ?_)
    obtain rfl : tv4 = (2262 : Int32) := etv4.trans (by first | rfl | decide)
    refine lv_icmp_gt (tgt := 25) hx hb dX7_copyFrom_10 (by decide) (fun c5 => ?_) (fun c5 => ?_)
    · skip
      have fc5 : 2262 < v4.toInt := Int32.lt_iff_toInt_lt.mp c5
      exact hJ2 f2 H locs ls hP hD hS (lv_sub hl [0, 1, 2] rfl)
    · skip
      have fc5 : ¬ (2262 < v4.toInt) := fun h9 => c5 (Int32.lt_iff_toInt_lt.mpr h9)
      refine lv_aload_n hx hb dX7_copyFrom_13 rfl (lv_at hl 1 rfl) ?_
      refine lv_iload_n hx hb dX7_copyFrom_14 rfl (lv_at hl 2 rfl) ?_
      refine lv_aload_n hx hb dX7_copyFrom_15 rfl (lv_at hl 0 rfl) ?_
      refine va_get (D := (dC, dI)) (ci := 7) (v := .ref h1) (C := RX7) (T := TX7) (N := 4) hx hb hts (fun _ h => List.mem_cons_of_mem _ (List.mem_append_right _ h)) hown hK hP 0 rfl rfl 0 (by decide) (hts (.fieldLink RX7 11 "LeftArguments$Room" "cells" "[I") (List.mem_cons_of_mem _ (List.mem_append_left _ (List.mem_of_getElem? (i := 0) rfl)))) (fun _ h9 => h9) rfl dX7_copyFrom_16 ?_
      refine lv_iconst (v := 0) hx hb dX7_copyFrom_19 (by decide) ?_
      refine lv_bipush (v := 58) hx hb dX7_copyFrom_20 (by decide) ?_
      refine va_copyi (ty := .int) hx hb (by rw [hml]; exact hl.1.symm) hown (hts (.methodLink RX7 52 arraycopyName) (List.mem_cons_of_mem _ (List.mem_append_left _ (List.mem_of_getElem? (i := 1) rfl)))) (hts (.native arraycopyName) (List.mem_cons_of_mem _ (List.mem_append_left _ (List.mem_of_getElem? (i := 2) rfl)))) (hts (.static arraycopyName) (List.mem_cons_of_mem _ (List.mem_append_left _ (List.mem_of_getElem? (i := 3) rfl)))) (hts (.initialized "java/lang/System") (List.mem_cons_of_mem _ (List.mem_append_left _ (List.mem_of_getElem? (i := 4) rfl)))) hK hP hD hS 2 1 1 0 rfl rfl rfl rfl rfl (pv_nn (by omega)) (by decide) (by decide) (pv_sum (a := v4.toInt) (b := 58) rfl (by decide) (by omega) (by omega) (by omega)) (by decide) (fun _ _ => rfl) (Nat.le_of_ble_eq_true rfl) (Nat.le_of_ble_eq_true rfl) dX7_copyFrom_22 (fun H locs hP hD hS => ?_)
      obtain ⟨fn6, efn6⟩ : ∃ g : Nat → Int32, g = va_cpy f3 f2 (Int32.toNatClampNeg v4) (Int32.toNatClampNeg 0) (Int32.toNatClampNeg 58) := ⟨_, rfl⟩
      rw [← efn6] at hP hD
      have hP : va_P (dC, dI) vwCl [(h0, .inr (7, [.ref h1, .ref r0, .int v0, .int v1])), (h1, .inl (g0, 58, .inl fn6)), (h2, .inl (g1, 2320, .inl f3))] H := hP
      have hD : va_D A [(h0, .inr (7, [.ref h1, .ref r0, .int v0, .int v1])), (h1, .inl (g0, 58, .inl fn6)), (h2, .inl (g1, 2320, .inl f3))] := hD
      exact hJ2 fn6 H locs ls hP hD hS (lv_sub hl [0, 1, 2] rfl)
def q_X0_takeBack : List Cond := .code yX0_takeBack cX0_takeBack 2 (some .boolean) :: (([.fieldLink RX0 19 "LeftArguments$Acts" "number" "I", .fieldLink RX0 15 "LeftArguments$Acts" "top" "I", .fieldLink RX0 11 "LeftArguments$Acts" "ring" "[I", .code yX7_copyFrom cX7_copyFrom 3 none, .fieldLink RX7 11 "LeftArguments$Room" "cells" "[I", .methodLink RX7 52 arraycopyName, .native arraycopyName, .static arraycopyName, .initialized "java/lang/System", .initialized RX7, .instanceMethod yX7_copyFrom, .selects RX7 yX7_copyFrom yX7_copyFrom, .methodLink RX0 32 yX7_copyFrom] : List Cond) ++ wsX00 ++ wsX70)
set_option maxRecDepth 20000 in
theorem g_X0_takeBack_0 : GoodIn q_X0_takeBack (wsV RX0 32 RX7 yX7_copyFrom q_X7_copyFrom) := goodIn_app (goodIn_r _ [13, 11, 12, 10] (by decide +kernel) (by decide +kernel)) (goodIn_ca (goodIn_r (.code yX7_copyFrom cX7_copyFrom 3 none :: [.fieldLink RX7 11 "LeftArguments$Room" "cells" "[I", .methodLink RX7 52 arraycopyName, .native arraycopyName, .static arraycopyName, .initialized "java/lang/System"]) [4, 5, 6, 7, 8, 9] (by decide +kernel) (by decide +kernel)) (goodIn_sub (fun _ h => List.mem_cons_of_mem _ (List.mem_append_right _ h)) gwX7))
set_option maxHeartbeats 4000000 in
set_option maxRecDepth 100000 in
theorem k_X0_takeBack (l : Launch) (dC : Nat → ClassId) (dI : Nat → Nat → Nat) (h0 : Nat) (h1 : Nat) (h2 : Nat) (h3 : Nat) (v0 : Int32) (v1 : Int32) (r0 : Nat) (v2 : Int32) (v3 : Int32) (g0 : ClassId) (f4 : Nat → Int32) (g1 : ClassId) (f5 : Nat → Int32) (i_v0 : 0 ≤ v0.toInt ∧ v0.toInt ≤ 39) (i_v1 : 0 ≤ v1.toInt ∧ v1.toInt ≤ 40) (sz : Nat) : Met l yX0_takeBack q_X0_takeBack ({ frames := 2, cells := 0, slots := 0, locals := 82 }) (va_Pc [.ref h0, .ref h1] (fun U => U.heap.size = sz ∧ va_P (dC, dI) vwCl [(h0, .inr (0, [.ref h3, .int v0, .int v1])), (h1, .inr (7, [.ref h2, .ref r0, .int v2, .int v3])), (h2, .inl (g0, 58, .inl f4)), (h3, .inl (g1, 2320, .inl f5))] U.heap ∧ va_K (dC, dI) vwCl [(g0, .int), (g1, .int)] U ∧ va_D (fun _ => True) [(h0, .inr (0, [.ref h3, .int v0, .int v1])), (h1, .inr (7, [.ref h2, .ref r0, .int v2, .int v3])), (h2, .inl (g0, 58, .inl f4)), (h3, .inl (g1, 2320, .inl f5))])) (va_Qi (fun (r : Int32) (_ : Unit) => 0 ≤ r.toInt ∧ r.toInt ≤ 1) (fun (_ : Unit) (t : State) => ∃ (o_h0_1 : Int32) (o_h0_2 : Int32) (o_h2 : Nat → Int32), 0 ≤ o_h0_1.toInt ∧ o_h0_1.toInt ≤ 39 ∧ 0 ≤ o_h0_2.toInt ∧ o_h0_2.toInt ≤ 40 ∧ va_P (dC, dI) vwCl [(h0, .inr (0, [.ref h3, .int o_h0_1, .int o_h0_2])), (h1, .inr (7, [.ref h2, .ref r0, .int v2, .int v3])), (h2, .inl (g0, 58, .inl o_h2)), (h3, .inl (g1, 2320, .inl f5))] t.heap ∧ va_K (dC, dI) vwCl [] t ∧ va_D (va_A [(h0, .inr (0, [.ref h3, .int v0, .int v1])), (h1, .inr (7, [.ref h2, .ref r0, .int v2, .int v3])), (h2, .inl (g0, 58, .inl f4)), (h3, .inl (g1, 2320, .inl f5))] sz) [(h0, .inr (0, [.ref h3, .int o_h0_1, .int o_h0_2])), (h1, .inr (7, [.ref h2, .ref r0, .int v2, .int v3])), (h2, .inl (g0, 58, .inl o_h2)), (h3, .inl (g1, 2320, .inl f5))]) (va_A [(h0, .inr (0, [.ref h3, .int v0, .int v1])), (h1, .inr (7, [.ref h2, .ref r0, .int v2, .int v3])), (h2, .inl (g0, 58, .inl f4)), (h3, .inl (g1, 2320, .inl f5))] sz)) 0 0 (va_A [(h0, .inr (0, [.ref h3, .int v0, .int v1])), (h1, .inr (7, [.ref h2, .ref r0, .int v2, .int v3])), (h2, .inl (g0, 58, .inl f4)), (h3, .inl (g1, 2320, .inl f5))] sz) := by
  refine Met.ofW (cc := cX0_takeBack) (maxL := 2) (ret := (some .boolean)) (by decide) rfl ?_
  intro p e s m args below meth c s₁ B hml hv
  obtain ⟨i_v0a, i_v0b⟩ := i_v0
  obtain ⟨i_v1a, i_v1b⟩ := i_v1
  obtain ⟨rfl, hsz, hP, hK, hD0⟩ := hv
  have hx := B.exec
  have hb := B.bytes
  have hr := B.returns
  have hts := atoms_spec (ws := q_X0_takeBack) B.pre
  have hown : s.vm.findClass RX0 = some m.cls := findClass_of_methodNamed B.named
  have hlocks := B.notSynchronized
  subst hsz
  have hD := hD0.self (sz := s.heap.size)
  generalize hAe : va_A [(h0, .inr (0, [.ref h3, .int v0, .int v1])), (h1, .inr (7, [.ref h2, .ref r0, .int v2, .int v3])), (h2, .inl (g0, 58, .inl f4)), (h3, .inl (g1, 2320, .inl f5))] s.heap.size = A at hD ⊢
  have hA : ∀ q : Nat, s.heap.size ≤ q → A q := fun q h => by rw [← hAe]; exact Or.inr h
  have hS : va_S A s.heap s.heap [] := va_S.rf
  generalize hQ : (MQ below _ _ s 0 0 A) = Q
  have hl := lv_entry ([.ref h0, .ref h1]) (n := 2) (Nat.le_of_ble_eq_true rfl)
  rw [lg_entry_eq]
  generalize (lg_sl ([.ref h0, .ref h1]) ++ List.replicate (2 - (lg_sl ([.ref h0, .ref h1])).length) Slot.unset).toArray = ls at hl ⊢
  have hl : lv_has ls 2 [(0, .ref h0), (1, .ref h1)] := hl
  obtain ⟨H, hH⟩ : ∃ H : Heap, H = s.heap := ⟨_, rfl⟩
  obtain ⟨locs, hlocs⟩ : ∃ y : List Loc, y = [] := ⟨_, rfl⟩
  have hS : va_S A s.heap H locs := by rw [hH, hlocs]; exact va_S.rf
  have hP : va_P (dC, dI) vwCl [(h0, .inr (0, [.ref h3, .int v0, .int v1])), (h1, .inr (7, [.ref h2, .ref r0, .int v2, .int v3])), (h2, .inl (g0, 58, .inl f4)), (h3, .inl (g1, 2320, .inl f5))] H := by rw [hH]; exact hP
  rw [← hH, ← hlocs]
  refine lv_aload_n hx hb dX0_takeBack_0 rfl (lv_at hl 0 rfl) ?_
  refine va_get (D := (dC, dI)) (ci := 0) (v := .int v1) (C := RX0) (T := TX0) (N := 3) hx hb hts (fun _ h => List.mem_cons_of_mem _ (List.mem_append_left _ (List.mem_append_right _ h))) hown hK hP 0 rfl rfl 2 (by decide) (hts (.fieldLink RX0 19 "LeftArguments$Acts" "number" "I") (List.mem_cons_of_mem _ (List.mem_append_left _ (List.mem_append_left _ (List.mem_of_getElem? (i := 0) rfl))))) (fun _ h9 => h9) rfl dX0_takeBack_1 ?_
  refine lv_iconst (v := 1) hx hb dX0_takeBack_4 (by decide) ?_
  refine lv_icmp_ge (tgt := 10) hx hb dX0_takeBack_5 (by decide) (fun c1 => ?_) (fun c1 => ?_)
  · skip
    have fc1 : 1 ≤ v1.toInt := Int32.le_iff_toInt_le.mp c1
    refine lv_aload_n hx hb dX0_takeBack_10 rfl (lv_at hl 0 rfl) ?_
    refine lv_aload_n hx hb dX0_takeBack_11 rfl (lv_at hl 0 rfl) ?_
    refine va_get (D := (dC, dI)) (ci := 0) (v := .int v0) (C := RX0) (T := TX0) (N := 3) hx hb hts (fun _ h => List.mem_cons_of_mem _ (List.mem_append_left _ (List.mem_append_right _ h))) hown hK hP 0 rfl rfl 1 (by decide) (hts (.fieldLink RX0 15 "LeftArguments$Acts" "top" "I") (List.mem_cons_of_mem _ (List.mem_append_left _ (List.mem_append_left _ (List.mem_of_getElem? (i := 1) rfl))))) (fun _ h9 => h9) rfl dX0_takeBack_12 ?_
    refine lv_bipush (v := 40) hx hb dX0_takeBack_15 (by decide) ?_
    refine lv_iadd hx hb dX0_takeBack_17 ?_
    refine lv_topi (fun t2 et2 => ?_)
    have gt2 : t2.toInt = v0.toInt + 40 := pv_add (a := v0.toInt) (b := 40) et2 rfl (by decide) (by omega) (by omega)
    refine lv_iconst (v := 1) hx hb dX0_takeBack_18 (by decide) ?_
    refine lv_isub hx hb dX0_takeBack_19 ?_
    refine lv_topi (fun t3 et3 => ?_)
    have gt3 : t3.toInt = t2.toInt - 1 := pv_sub (a := t2.toInt) (b := 1) et3 rfl (by decide) (by omega) (by omega)
    refine lv_bipush (v := 40) hx hb dX0_takeBack_20 (by decide) ?_
    refine lv_irem hx hb dX0_takeBack_22 (by decide) ?_
    refine lv_topi (fun t4 et4 => ?_)
    have gt4 : 0 ≤ t4.toInt ∧ t4.toInt < 40 := pv_rem et4 (by omega) (by decide) (by decide)
    refine va_put (D := (dC, dI)) (ci := 0) (v := .int t4) (ty := .int) (C := RX0) (T := TX0) (N := 3) hx hb hts (fun _ h => List.mem_cons_of_mem _ (List.mem_append_left _ (List.mem_append_right _ h))) tyX0 tyX0_ok nmX0 hown hK hP hD hS 0 rfl rfl 1 (by decide) (hts (.fieldLink RX0 15 "LeftArguments$Acts" "top" "I") (List.mem_cons_of_mem _ (List.mem_append_left _ (List.mem_append_left _ (List.mem_of_getElem? (i := 1) rfl))))) (fun _ h9 => h9) rfl (by decide +kernel) rfl rfl (Nat.le_of_ble_eq_true rfl) dX0_takeBack_23 (fun H locs hP hD hS => ?_)
    have hP : va_P (dC, dI) vwCl [(h0, .inr (0, [.ref h3, .int t4, .int v1])), (h1, .inr (7, [.ref h2, .ref r0, .int v2, .int v3])), (h2, .inl (g0, 58, .inl f4)), (h3, .inl (g1, 2320, .inl f5))] H := hP
    have hD : va_D A [(h0, .inr (0, [.ref h3, .int t4, .int v1])), (h1, .inr (7, [.ref h2, .ref r0, .int v2, .int v3])), (h2, .inl (g0, 58, .inl f4)), (h3, .inl (g1, 2320, .inl f5))] := hD
    refine lv_aload_n hx hb dX0_takeBack_26 rfl (lv_at hl 0 rfl) ?_
    refine lv_dup hx hb dX0_takeBack_27 rfl ?_
    refine va_get (D := (dC, dI)) (ci := 0) (v := .int v1) (C := RX0) (T := TX0) (N := 3) hx hb hts (fun _ h => List.mem_cons_of_mem _ (List.mem_append_left _ (List.mem_append_right _ h))) hown hK hP 0 rfl rfl 2 (by decide) (hts (.fieldLink RX0 19 "LeftArguments$Acts" "number" "I") (List.mem_cons_of_mem _ (List.mem_append_left _ (List.mem_append_left _ (List.mem_of_getElem? (i := 0) rfl))))) (fun _ h9 => h9) rfl dX0_takeBack_28 ?_
    refine lv_iconst (v := 1) hx hb dX0_takeBack_31 (by decide) ?_
    refine lv_isub hx hb dX0_takeBack_32 ?_
    refine lv_topi (fun t5 et5 => ?_)
    have gt5 : t5.toInt = v1.toInt - 1 := pv_sub (a := v1.toInt) (b := 1) et5 rfl (by decide) (by omega) (by omega)
    refine va_put (D := (dC, dI)) (ci := 0) (v := .int t5) (ty := .int) (C := RX0) (T := TX0) (N := 3) hx hb hts (fun _ h => List.mem_cons_of_mem _ (List.mem_append_left _ (List.mem_append_right _ h))) tyX0 tyX0_ok nmX0 hown hK hP hD hS 0 rfl rfl 2 (by decide) (hts (.fieldLink RX0 19 "LeftArguments$Acts" "number" "I") (List.mem_cons_of_mem _ (List.mem_append_left _ (List.mem_append_left _ (List.mem_of_getElem? (i := 0) rfl))))) (fun _ h9 => h9) rfl (by decide +kernel) rfl rfl (Nat.le_of_ble_eq_true rfl) dX0_takeBack_33 (fun H locs hP hD hS => ?_)
    have hP : va_P (dC, dI) vwCl [(h0, .inr (0, [.ref h3, .int t4, .int t5])), (h1, .inr (7, [.ref h2, .ref r0, .int v2, .int v3])), (h2, .inl (g0, 58, .inl f4)), (h3, .inl (g1, 2320, .inl f5))] H := hP
    have hD : va_D A [(h0, .inr (0, [.ref h3, .int t4, .int t5])), (h1, .inr (7, [.ref h2, .ref r0, .int v2, .int v3])), (h2, .inl (g0, 58, .inl f4)), (h3, .inl (g1, 2320, .inl f5))] := hD
    refine lv_aload_n hx hb dX0_takeBack_36 rfl (lv_at hl 1 rfl) ?_
    refine lv_aload_n hx hb dX0_takeBack_37 rfl (lv_at hl 0 rfl) ?_
    refine va_get (D := (dC, dI)) (ci := 0) (v := .ref h3) (C := RX0) (T := TX0) (N := 3) hx hb hts (fun _ h => List.mem_cons_of_mem _ (List.mem_append_left _ (List.mem_append_right _ h))) hown hK hP 0 rfl rfl 0 (by decide) (hts (.fieldLink RX0 11 "LeftArguments$Acts" "ring" "[I") (List.mem_cons_of_mem _ (List.mem_append_left _ (List.mem_append_left _ (List.mem_of_getElem? (i := 2) rfl))))) (fun _ h9 => h9) rfl dX0_takeBack_38 ?_
    refine lv_aload_n hx hb dX0_takeBack_41 rfl (lv_at hl 0 rfl) ?_
    refine va_get (D := (dC, dI)) (ci := 0) (v := .int t4) (C := RX0) (T := TX0) (N := 3) hx hb hts (fun _ h => List.mem_cons_of_mem _ (List.mem_append_left _ (List.mem_append_right _ h))) hown hK hP 0 rfl rfl 1 (by decide) (hts (.fieldLink RX0 15 "LeftArguments$Acts" "top" "I") (List.mem_cons_of_mem _ (List.mem_append_left _ (List.mem_append_left _ (List.mem_of_getElem? (i := 1) rfl))))) (fun _ h9 => h9) rfl dX0_takeBack_42 ?_
    refine lv_bipush (v := 58) hx hb dX0_takeBack_45 (by decide) ?_
    refine lv_imul hx hb dX0_takeBack_47 ?_
    refine lv_topi (fun t6 et6 => ?_)
    have gt6 : t6.toInt = t4.toInt * 58 := pv_mul (a := t4.toInt) (b := 58) et6 rfl (by decide) (by omega) (by omega)
    have hPc := hP.sub (ws' := [(h1, .inr (7, [.ref h2, .ref r0, .int v2, .int v3])), (h2, .inl (g0, 58, .inl f4)), (h3, .inl (g1, 2320, .inl f5))]) [1, 2, 3] rfl
    have hDc := hD.sub (ws' := [(h1, .inr (7, [.ref h2, .ref r0, .int v2, .int v3])), (h2, .inl (g0, 58, .inl f4)), (h3, .inl (g1, 2320, .inl f5))]) [1, 2, 3] (by decide) rfl
    have hKc := hK.sub (tys' := [(g0, .int), (g1, .int)]) [0, 1] rfl
    have hFc := va_free (wc := [(h1, .inr (7, [.ref h2, .ref r0, .int v2, .int v3])), (h2, .inl (g0, 58, .inl f4)), (h3, .inl (g1, 2320, .inl f5))]) hD hS hA [1, 2, 3] rfl
    refine va_callv (va_runV (As := [.ref h3, .int t6]) (rest := []) ⟨hx, hb, hml, hown, hts⟩ (k_X7_copyFrom l dC dI h1 h2 h3 r0 v2 v3 g0 f4 g1 f5 t6  H.size) (cwV 2 hts g_X0_takeBack_0 rfl rfl rfl (by decide +kernel) ⟨Nat.le_of_ble_eq_true rfl, Nat.le_of_ble_eq_true rfl⟩) ⟨fun a U g mk q => by obtain ⟨q0, q1, qP, qK, qD⟩ := q; exact ⟨q0, q1, qP, va_K.moved (u := U) (U := U.calling g mk a) (Vm.Alike.refl U.vm) qK, qD⟩, va_recv hKc hPc (ci := 7) (q0 := 0) rfl rfl, fun U hU hW => ⟨rfl, by rw [hU], by rw [hU]; exact hPc, va_K.moved hW.alike hKc, hDc.weaken (fun _ _ _ _ => trivial)⟩⟩ rfl rfl hl.1 rfl (lv_room (Nat.le_of_ble_eq_true rfl)) dX0_takeBack_48 ⟨Nat.le_of_ble_eq_true rfl, Nat.le_of_ble_eq_true rfl⟩) hS (fun q _ h => hFc q h) hFc (fun u t H1 locs ht hvm hwra7 hB hz1 hk1 hS => ?_)
    obtain ⟨fn8, hP1, hK1, hD1⟩ := hB
    rw [ht] at hP1
    obtain ⟨hP, hD⟩ := va_join (wr := [(h0, .inr (0, [.ref h3, .int t4, .int t5]))]) (w1 := [(h1, .inr (7, [.ref h2, .ref r0, .int v2, .int v3])), (h2, .inl (g0, 58, .inl fn8)), (h3, .inl (g1, 2320, .inl f5))]) hP hD [1, 2, 3] [0] rfl rfl (by decide) (by decide) hk1 hFc hP1 hD1
    generalize H1 = H at hP hS ⊢
    have hP : va_P (dC, dI) vwCl [(h0, .inr (0, [.ref h3, .int t4, .int t5])), (h1, .inr (7, [.ref h2, .ref r0, .int v2, .int v3])), (h2, .inl (g0, 58, .inl fn8)), (h3, .inl (g1, 2320, .inl f5))] H := hP
    have hD : va_D A [(h0, .inr (0, [.ref h3, .int t4, .int t5])), (h1, .inr (7, [.ref h2, .ref r0, .int v2, .int v3])), (h2, .inl (g0, 58, .inl fn8)), (h3, .inl (g1, 2320, .inl f5))] := hD
    refine lv_iconst (v := 1) hx hb dX0_takeBack_51 (by decide) ?_
    subst hQ
    have hP9 := hP.sub (ws' := [(h0, .inr (0, [.ref h3, .int t4, .int t5])), (h1, .inr (7, [.ref h2, .ref r0, .int v2, .int v3])), (h2, .inl (g0, 58, .inl fn8)), (h3, .inl (g1, 2320, .inl f5))]) [0, 1, 2, 3] rfl
    have hD9 := hD.sub (ws' := [(h0, .inr (0, [.ref h3, .int t4, .int t5])), (h1, .inr (7, [.ref h2, .ref r0, .int v2, .int v3])), (h2, .inl (g0, 58, .inl fn8)), (h3, .inl (g1, 2320, .inl f5))]) [0, 1, 2, 3] (by decide) rfl
    have hK9 := hK.sub (tys' := []) [] rfl
    exact W.zret (v := 1) hx hb hr rfl (fun t ht hW => ⟨⟨1, (), rfl, ⟨by first | omega | decide, by first | omega | decide⟩, t4, t5, fn8, by first | omega | decide, by first | omega | decide, by first | omega | decide, by first | omega | decide, by rw [ht]; exact hP9, va_K.moved hW.alike hK9, hD9⟩, hS.F ht⟩) hS.2.2 dX0_takeBack_52
  · skip
    have fc1 : ¬ (1 ≤ v1.toInt) := fun h9 => c1 (Int32.le_iff_toInt_le.mpr h9)
    refine lv_iconst (v := 0) hx hb dX0_takeBack_8 (by decide) ?_
    subst hQ
    have hP9 := hP.sub (ws' := [(h0, .inr (0, [.ref h3, .int v0, .int v1])), (h1, .inr (7, [.ref h2, .ref r0, .int v2, .int v3])), (h2, .inl (g0, 58, .inl f4)), (h3, .inl (g1, 2320, .inl f5))]) [0, 1, 2, 3] rfl
    have hD9 := hD.sub (ws' := [(h0, .inr (0, [.ref h3, .int v0, .int v1])), (h1, .inr (7, [.ref h2, .ref r0, .int v2, .int v3])), (h2, .inl (g0, 58, .inl f4)), (h3, .inl (g1, 2320, .inl f5))]) [0, 1, 2, 3] (by decide) rfl
    have hK9 := hK.sub (tys' := []) [] rfl
    exact W.zret (v := 0) hx hb hr rfl (fun t ht hW => ⟨⟨0, (), rfl, ⟨by first | omega | decide, by first | omega | decide⟩, v0, v1, f4, by first | omega | decide, by first | omega | decide, by first | omega | decide, by first | omega | decide, by rw [ht]; exact hP9, va_K.moved hW.alike hK9, hD9⟩, hS.F ht⟩) hS.2.2 dX0_takeBack_9
def q_X11_undo : List Cond := .code yX11_undo cX11_undo 1 (some .int) :: (([.fieldLink RX11 63 "LeftArguments" "acts" "LLeftArguments$Acts;", .fieldLink RX11 49 "LeftArguments" "room" "LLeftArguments$Room;", .code yX0_takeBack cX0_takeBack 2 (some .boolean), .fieldLink RX0 19 "LeftArguments$Acts" "number" "I", .fieldLink RX0 15 "LeftArguments$Acts" "top" "I", .fieldLink RX0 11 "LeftArguments$Acts" "ring" "[I", .code yX7_copyFrom cX7_copyFrom 3 none, .fieldLink RX7 11 "LeftArguments$Room" "cells" "[I", .methodLink RX7 52 arraycopyName, .native arraycopyName, .static arraycopyName, .initialized "java/lang/System", .initialized RX7, .instanceMethod yX7_copyFrom, .selects RX7 yX7_copyFrom yX7_copyFrom, .methodLink RX0 32 yX7_copyFrom, .initialized RX0, .instanceMethod yX0_takeBack, .selects RX0 yX0_takeBack yX0_takeBack, .methodLink RX11 267 yX0_takeBack, .code yX0_number cX0_number 1 (some .int), .instanceMethod yX0_number, .selects RX0 yX0_number yX0_number, .methodLink RX11 207 yX0_number] : List Cond) ++ wsX110 ++ wsX00 ++ wsX70)
set_option maxRecDepth 20000 in
theorem g_X11_undo_0 : GoodIn q_X11_undo (wsV RX11 267 RX0 yX0_takeBack q_X0_takeBack) := goodIn_app (goodIn_r _ [20, 18, 19, 17] (by decide +kernel) (by decide +kernel)) (goodIn_ca (goodIn_ca (goodIn_r (.code yX0_takeBack cX0_takeBack 2 (some .boolean) :: [.fieldLink RX0 19 "LeftArguments$Acts" "number" "I", .fieldLink RX0 15 "LeftArguments$Acts" "top" "I", .fieldLink RX0 11 "LeftArguments$Acts" "ring" "[I", .code yX7_copyFrom cX7_copyFrom 3 none, .fieldLink RX7 11 "LeftArguments$Room" "cells" "[I", .methodLink RX7 52 arraycopyName, .native arraycopyName, .static arraycopyName, .initialized "java/lang/System", .initialized RX7, .instanceMethod yX7_copyFrom, .selects RX7 yX7_copyFrom yX7_copyFrom, .methodLink RX0 32 yX7_copyFrom]) [3, 4, 5, 6, 7, 8, 9, 10, 11, 12, 13, 14, 15, 16] (by decide +kernel) (by decide +kernel)) (goodIn_sub (fun _ h => List.mem_cons_of_mem _ (List.mem_append_left _ (List.mem_append_right _ h))) gwX0)) (goodIn_sub (fun _ h => List.mem_cons_of_mem _ (List.mem_append_right _ h)) gwX7))
set_option maxRecDepth 20000 in
theorem g_X11_undo_1 : GoodIn q_X11_undo (wsV RX11 207 RX0 yX0_number q_X0_number) := goodIn_app (goodIn_r _ [24, 22, 23, 17] (by decide +kernel) (by decide +kernel)) (goodIn_ca (goodIn_r (.code yX0_number cX0_number 1 (some .int) :: [.fieldLink RX0 19 "LeftArguments$Acts" "number" "I"]) [21, 4] (by decide +kernel) (by decide +kernel)) (goodIn_sub (fun _ h => List.mem_cons_of_mem _ (List.mem_append_left _ (List.mem_append_right _ h))) gwX0))
set_option maxHeartbeats 4000000 in
set_option maxRecDepth 100000 in
theorem k_X11_undo (l : Launch) (dC : Nat → ClassId) (dI : Nat → Nat → Nat) (h0 : Nat) (h1 : Nat) (h2 : Nat) (h3 : Nat) (h4 : Nat) (r0 : Nat) (r1 : Nat) (r2 : Nat) (r3 : Nat) (r4 : Nat) (r5 : Nat) (r6 : Nat) (r7 : Nat) (r8 : Nat) (r9 : Nat) (r10 : Nat) (r11 : Nat) (v0 : Int32) (v1 : Int32) (w2 : Int64) (r12 : Nat) (v3 : Int32) (v4 : Int32) (g0 : ClassId) (f5 : Nat → Int32) (v6 : Int32) (v7 : Int32) (g1 : ClassId) (f8 : Nat → Int32) (i_v0 : 0 ≤ v0.toInt ∧ v0.toInt ≤ 1) (i_v6 : 0 ≤ v6.toInt ∧ v6.toInt ≤ 39) (i_v7 : 0 ≤ v7.toInt ∧ v7.toInt ≤ 40) (sz : Nat) : Met l yX11_undo q_X11_undo ({ frames := 3, cells := 0, slots := 0, locals := 103 }) (va_Pc [.ref h0] (fun U => U.heap.size = sz ∧ va_P (dC, dI) vwCl [(h0, .inr (11, [.ref r0, .ref r1, .ref r2, .ref r3, .ref r4, .ref h1, .ref r5, .ref h3, .ref r6, .ref r7, .ref r8, .ref r9, .ref r10, .ref r11, .int v0, .int v1, .long w2])), (h1, .inr (7, [.ref h2, .ref r12, .int v3, .int v4])), (h2, .inl (g0, 58, .inl f5)), (h3, .inr (0, [.ref h4, .int v6, .int v7])), (h4, .inl (g1, 2320, .inl f8))] U.heap ∧ va_K (dC, dI) vwCl [(g0, .int), (g1, .int)] U ∧ va_D (fun _ => True) [(h0, .inr (11, [.ref r0, .ref r1, .ref r2, .ref r3, .ref r4, .ref h1, .ref r5, .ref h3, .ref r6, .ref r7, .ref r8, .ref r9, .ref r10, .ref r11, .int v0, .int v1, .long w2])), (h1, .inr (7, [.ref h2, .ref r12, .int v3, .int v4])), (h2, .inl (g0, 58, .inl f5)), (h3, .inr (0, [.ref h4, .int v6, .int v7])), (h4, .inl (g1, 2320, .inl f8))])) (va_Qi (fun (r : Int32) (_ : Unit) => -1 ≤ r.toInt ∧ r.toInt ≤ 40) (fun (_ : Unit) (t : State) => ∃ (o_h2 : Nat → Int32) (o_h3_1 : Int32) (o_h3_2 : Int32), 0 ≤ o_h3_1.toInt ∧ o_h3_1.toInt ≤ 39 ∧ 0 ≤ o_h3_2.toInt ∧ o_h3_2.toInt ≤ 40 ∧ va_P (dC, dI) vwCl [(h0, .inr (11, [.ref r0, .ref r1, .ref r2, .ref r3, .ref r4, .ref h1, .ref r5, .ref h3, .ref r6, .ref r7, .ref r8, .ref r9, .ref r10, .ref r11, .int v0, .int v1, .long w2])), (h1, .inr (7, [.ref h2, .ref r12, .int v3, .int v4])), (h2, .inl (g0, 58, .inl o_h2)), (h3, .inr (0, [.ref h4, .int o_h3_1, .int o_h3_2])), (h4, .inl (g1, 2320, .inl f8))] t.heap ∧ va_K (dC, dI) vwCl [] t ∧ va_D (va_A [(h0, .inr (11, [.ref r0, .ref r1, .ref r2, .ref r3, .ref r4, .ref h1, .ref r5, .ref h3, .ref r6, .ref r7, .ref r8, .ref r9, .ref r10, .ref r11, .int v0, .int v1, .long w2])), (h1, .inr (7, [.ref h2, .ref r12, .int v3, .int v4])), (h2, .inl (g0, 58, .inl f5)), (h3, .inr (0, [.ref h4, .int v6, .int v7])), (h4, .inl (g1, 2320, .inl f8))] sz) [(h0, .inr (11, [.ref r0, .ref r1, .ref r2, .ref r3, .ref r4, .ref h1, .ref r5, .ref h3, .ref r6, .ref r7, .ref r8, .ref r9, .ref r10, .ref r11, .int v0, .int v1, .long w2])), (h1, .inr (7, [.ref h2, .ref r12, .int v3, .int v4])), (h2, .inl (g0, 58, .inl o_h2)), (h3, .inr (0, [.ref h4, .int o_h3_1, .int o_h3_2])), (h4, .inl (g1, 2320, .inl f8))]) (va_A [(h0, .inr (11, [.ref r0, .ref r1, .ref r2, .ref r3, .ref r4, .ref h1, .ref r5, .ref h3, .ref r6, .ref r7, .ref r8, .ref r9, .ref r10, .ref r11, .int v0, .int v1, .long w2])), (h1, .inr (7, [.ref h2, .ref r12, .int v3, .int v4])), (h2, .inl (g0, 58, .inl f5)), (h3, .inr (0, [.ref h4, .int v6, .int v7])), (h4, .inl (g1, 2320, .inl f8))] sz)) 0 0 (va_A [(h0, .inr (11, [.ref r0, .ref r1, .ref r2, .ref r3, .ref r4, .ref h1, .ref r5, .ref h3, .ref r6, .ref r7, .ref r8, .ref r9, .ref r10, .ref r11, .int v0, .int v1, .long w2])), (h1, .inr (7, [.ref h2, .ref r12, .int v3, .int v4])), (h2, .inl (g0, 58, .inl f5)), (h3, .inr (0, [.ref h4, .int v6, .int v7])), (h4, .inl (g1, 2320, .inl f8))] sz) := by
  refine Met.ofW (cc := cX11_undo) (maxL := 1) (ret := (some .int)) (by decide) rfl ?_
  intro p e s m args below meth c s₁ B hml hv
  obtain ⟨i_v0a, i_v0b⟩ := i_v0
  obtain ⟨i_v6a, i_v6b⟩ := i_v6
  obtain ⟨i_v7a, i_v7b⟩ := i_v7
  obtain ⟨rfl, hsz, hP, hK, hD0⟩ := hv
  have hx := B.exec
  have hb := B.bytes
  have hr := B.returns
  have hts := atoms_spec (ws := q_X11_undo) B.pre
  have hown : s.vm.findClass RX11 = some m.cls := findClass_of_methodNamed B.named
  have hlocks := B.notSynchronized
  subst hsz
  have hD := hD0.self (sz := s.heap.size)
  generalize hAe : va_A [(h0, .inr (11, [.ref r0, .ref r1, .ref r2, .ref r3, .ref r4, .ref h1, .ref r5, .ref h3, .ref r6, .ref r7, .ref r8, .ref r9, .ref r10, .ref r11, .int v0, .int v1, .long w2])), (h1, .inr (7, [.ref h2, .ref r12, .int v3, .int v4])), (h2, .inl (g0, 58, .inl f5)), (h3, .inr (0, [.ref h4, .int v6, .int v7])), (h4, .inl (g1, 2320, .inl f8))] s.heap.size = A at hD ⊢
  have hA : ∀ q : Nat, s.heap.size ≤ q → A q := fun q h => by rw [← hAe]; exact Or.inr h
  have hS : va_S A s.heap s.heap [] := va_S.rf
  generalize hQ : (MQ below _ _ s 0 0 A) = Q
  have hl := lv_entry ([.ref h0]) (n := 1) (Nat.le_of_ble_eq_true rfl)
  rw [lg_entry_eq]
  generalize (lg_sl ([.ref h0]) ++ List.replicate (1 - (lg_sl ([.ref h0])).length) Slot.unset).toArray = ls at hl ⊢
  have hl : lv_has ls 1 [(0, .ref h0)] := hl
  obtain ⟨H, hH⟩ : ∃ H : Heap, H = s.heap := ⟨_, rfl⟩
  obtain ⟨locs, hlocs⟩ : ∃ y : List Loc, y = [] := ⟨_, rfl⟩
  have hS : va_S A s.heap H locs := by rw [hH, hlocs]; exact va_S.rf
  have hP : va_P (dC, dI) vwCl [(h0, .inr (11, [.ref r0, .ref r1, .ref r2, .ref r3, .ref r4, .ref h1, .ref r5, .ref h3, .ref r6, .ref r7, .ref r8, .ref r9, .ref r10, .ref r11, .int v0, .int v1, .long w2])), (h1, .inr (7, [.ref h2, .ref r12, .int v3, .int v4])), (h2, .inl (g0, 58, .inl f5)), (h3, .inr (0, [.ref h4, .int v6, .int v7])), (h4, .inl (g1, 2320, .inl f8))] H := by rw [hH]; exact hP
  rw [← hH, ← hlocs]
  refine lv_aload_n hx hb dX11_undo_0 rfl (lv_at hl 0 rfl) ?_
  refine va_get (D := (dC, dI)) (ci := 11) (v := .ref h3) (C := RX11) (T := TX11) (N := 17) hx hb hts (fun _ h => List.mem_cons_of_mem _ (List.mem_append_left _ (List.mem_append_left _ (List.mem_append_right _ h)))) hown hK hP 0 rfl rfl 7 (by decide) (hts (.fieldLink RX11 63 "LeftArguments" "acts" "LLeftArguments$Acts;") (List.mem_cons_of_mem _ (List.mem_append_left _ (List.mem_append_left _ (List.mem_append_left _ (List.mem_of_getElem? (i := 0) rfl)))))) (fun _ h9 => h9) rfl dX11_undo_1 ?_
  refine lv_aload_n hx hb dX11_undo_4 rfl (lv_at hl 0 rfl) ?_
  refine va_get (D := (dC, dI)) (ci := 11) (v := .ref h1) (C := RX11) (T := TX11) (N := 17) hx hb hts (fun _ h => List.mem_cons_of_mem _ (List.mem_append_left _ (List.mem_append_left _ (List.mem_append_right _ h)))) hown hK hP 0 rfl rfl 5 (by decide) (hts (.fieldLink RX11 49 "LeftArguments" "room" "LLeftArguments$Room;") (List.mem_cons_of_mem _ (List.mem_append_left _ (List.mem_append_left _ (List.mem_append_left _ (List.mem_of_getElem? (i := 1) rfl)))))) (fun _ h9 => h9) rfl dX11_undo_5 ?_
  have hPc := hP.sub (ws' := [(h3, .inr (0, [.ref h4, .int v6, .int v7])), (h1, .inr (7, [.ref h2, .ref r12, .int v3, .int v4])), (h2, .inl (g0, 58, .inl f5)), (h4, .inl (g1, 2320, .inl f8))]) [3, 1, 2, 4] rfl
  have hDc := hD.sub (ws' := [(h3, .inr (0, [.ref h4, .int v6, .int v7])), (h1, .inr (7, [.ref h2, .ref r12, .int v3, .int v4])), (h2, .inl (g0, 58, .inl f5)), (h4, .inl (g1, 2320, .inl f8))]) [3, 1, 2, 4] (by decide) rfl
  have hKc := hK.sub (tys' := [(g0, .int), (g1, .int)]) [0, 1] rfl
  have hFc := va_free (wc := [(h3, .inr (0, [.ref h4, .int v6, .int v7])), (h1, .inr (7, [.ref h2, .ref r12, .int v3, .int v4])), (h2, .inl (g0, 58, .inl f5)), (h4, .inl (g1, 2320, .inl f8))]) hD hS hA [3, 1, 2, 4] rfl
  refine va_calli (va_runV (As := [.ref h1]) (rest := []) ⟨hx, hb, hml, hown, hts⟩ (k_X0_takeBack l dC dI h3 h1 h2 h4 v6 v7 r12 v3 v4 g0 f5 g1 f8 ⟨by first | omega | decide, by first | omega | decide⟩ ⟨by first | omega | decide, by first | omega | decide⟩ H.size) (cwV 1 hts g_X11_undo_0 rfl rfl rfl (by decide +kernel) ⟨Nat.le_of_ble_eq_true rfl, Nat.le_of_ble_eq_true rfl⟩) ⟨fun a U g mk q => by obtain ⟨q0, q1, qP, qK, qD⟩ := q; exact ⟨q0, q1, qP, va_K.moved (u := U) (U := U.calling g mk a) (Vm.Alike.refl U.vm) qK, qD⟩, va_recv hKc hPc (ci := 0) (q0 := 0) rfl rfl, fun U hU hW => ⟨rfl, by rw [hU], by rw [hU]; exact hPc, va_K.moved hW.alike hKc, hDc.weaken (fun _ _ _ _ => trivial)⟩⟩ rfl rfl hl.1 rfl (lv_room (Nat.le_of_ble_eq_true rfl)) dX11_undo_8 ⟨Nat.le_of_ble_eq_true rfl, Nat.le_of_ble_eq_true rfl⟩) hS (fun q _ h => hFc q h) hFc (fun ra1 u t H1 locs ht hvm hwra1 hB hz1 hk1 hS => ?_)
  obtain ⟨x2, x3, fn4, oa_x2, ob_x2, oa_x3, ob_x3, hP1, hK1, hD1⟩ := hB
  rw [ht] at hP1
  obtain ⟨hP, hD⟩ := va_join (wr := [(h0, .inr (11, [.ref r0, .ref r1, .ref r2, .ref r3, .ref r4, .ref h1, .ref r5, .ref h3, .ref r6, .ref r7, .ref r8, .ref r9, .ref r10, .ref r11, .int v0, .int v1, .long w2]))]) (w1 := [(h3, .inr (0, [.ref h4, .int x2, .int x3])), (h1, .inr (7, [.ref h2, .ref r12, .int v3, .int v4])), (h2, .inl (g0, 58, .inl fn4)), (h4, .inl (g1, 2320, .inl f8))]) hP hD [3, 1, 2, 4] [0] rfl rfl (by decide) (by decide) hk1 hFc hP1 hD1
  generalize H1 = H at hP hS ⊢
  have hP := hP.sub (ws' := [(h0, .inr (11, [.ref r0, .ref r1, .ref r2, .ref r3, .ref r4, .ref h1, .ref r5, .ref h3, .ref r6, .ref r7, .ref r8, .ref r9, .ref r10, .ref r11, .int v0, .int v1, .long w2])), (h1, .inr (7, [.ref h2, .ref r12, .int v3, .int v4])), (h2, .inl (g0, 58, .inl fn4)), (h3, .inr (0, [.ref h4, .int x2, .int x3])), (h4, .inl (g1, 2320, .inl f8))]) [0, 2, 3, 1, 4] rfl
  have hD := hD.sub (ws' := [(h0, .inr (11, [.ref r0, .ref r1, .ref r2, .ref r3, .ref r4, .ref h1, .ref r5, .ref h3, .ref r6, .ref r7, .ref r8, .ref r9, .ref r10, .ref r11, .int v0, .int v1, .long w2])), (h1, .inr (7, [.ref h2, .ref r12, .int v3, .int v4])), (h2, .inl (g0, 58, .inl fn4)), (h3, .inr (0, [.ref h4, .int x2, .int x3])), (h4, .inl (g1, 2320, .inl f8))]) [0, 2, 3, 1, 4] (by decide) rfl
  have hP : va_P (dC, dI) vwCl [(h0, .inr (11, [.ref r0, .ref r1, .ref r2, .ref r3, .ref r4, .ref h1, .ref r5, .ref h3, .ref r6, .ref r7, .ref r8, .ref r9, .ref r10, .ref r11, .int v0, .int v1, .long w2])), (h1, .inr (7, [.ref h2, .ref r12, .int v3, .int v4])), (h2, .inl (g0, 58, .inl fn4)), (h3, .inr (0, [.ref h4, .int x2, .int x3])), (h4, .inl (g1, 2320, .inl f8))] H := hP
  have hD : va_D A [(h0, .inr (11, [.ref r0, .ref r1, .ref r2, .ref r3, .ref r4, .ref h1, .ref r5, .ref h3, .ref r6, .ref r7, .ref r8, .ref r9, .ref r10, .ref r11, .int v0, .int v1, .long w2])), (h1, .inr (7, [.ref h2, .ref r12, .int v3, .int v4])), (h2, .inl (g0, 58, .inl fn4)), (h3, .inr (0, [.ref h4, .int x2, .int x3])), (h4, .inl (g1, 2320, .inl f8))] := hD
  obtain ⟨wa_ra1, wb_ra1⟩ := hwra1
  have wa_ra1 : 0 ≤ ra1.toInt := wa_ra1
  have wb_ra1 : ra1.toInt ≤ 1 := wb_ra1
  have hJ6 : ∀ (x5 : Int32) (H : Heap) (locs : List Loc) (ls : Array Slot), -1 ≤ x5.toInt → x5.toInt ≤ 40 → va_P (dC, dI) vwCl [(h0, .inr (11, [.ref r0, .ref r1, .ref r2, .ref r3, .ref r4, .ref h1, .ref r5, .ref h3, .ref r6, .ref r7, .ref r8, .ref r9, .ref r10, .ref r11, .int v0, .int v1, .long w2])), (h1, .inr (7, [.ref h2, .ref r12, .int v3, .int v4])), (h2, .inl (g0, 58, .inl fn4)), (h3, .inr (0, [.ref h4, .int x2, .int x3])), (h4, .inl (g1, 2320, .inl f8))] H → va_D A [(h0, .inr (11, [.ref r0, .ref r1, .ref r2, .ref r3, .ref r4, .ref h1, .ref r5, .ref h3, .ref r6, .ref r7, .ref r8, .ref r9, .ref r10, .ref r11, .int v0, .int v1, .long w2])), (h1, .inr (7, [.ref h2, .ref r12, .int v3, .int v4])), (h2, .inl (g0, 58, .inl fn4)), (h3, .inr (0, [.ref h4, .int x2, .int x3])), (h4, .inl (g1, 2320, .inl f8))] → va_S A s.heap H locs → lv_has ls 1 [(0, .ref h0)] → W p l e ({ frames := 3, cells := 0, slots := 0, locals := 103 }) s m ([.ref h0] : List Value).toArray below meth c H locs 0 0 Q (F0 m 25 ls [.int x5]) := by
    intro x5 H locs ls qa_x5 qb_x5 hP hD hS hl
    subst hQ
    have hP9 := hP.sub (ws' := [(h0, .inr (11, [.ref r0, .ref r1, .ref r2, .ref r3, .ref r4, .ref h1, .ref r5, .ref h3, .ref r6, .ref r7, .ref r8, .ref r9, .ref r10, .ref r11, .int v0, .int v1, .long w2])), (h1, .inr (7, [.ref h2, .ref r12, .int v3, .int v4])), (h2, .inl (g0, 58, .inl fn4)), (h3, .inr (0, [.ref h4, .int x2, .int x3])), (h4, .inl (g1, 2320, .inl f8))]) [0, 1, 2, 3, 4] rfl
    have hD9 := hD.sub (ws' := [(h0, .inr (11, [.ref r0, .ref r1, .ref r2, .ref r3, .ref r4, .ref h1, .ref r5, .ref h3, .ref r6, .ref r7, .ref r8, .ref r9, .ref r10, .ref r11, .int v0, .int v1, .long w2])), (h1, .inr (7, [.ref h2, .ref r12, .int v3, .int v4])), (h2, .inl (g0, 58, .inl fn4)), (h3, .inr (0, [.ref h4, .int x2, .int x3])), (h4, .inl (g1, 2320, .inl f8))]) [0, 1, 2, 3, 4] (by decide) rfl
    have hK9 := hK.sub (tys' := []) [] rfl
    exact W.iret (v := x5) hx hb hr (fun t ht hW => ⟨⟨x5, (), rfl, ⟨by first | omega | decide, by first | omega | decide⟩, fn4, x2, x3, by first | omega | decide, by first | omega | decide, by first | omega | decide, by first | omega | decide, by rw [ht]; exact hP9, va_K.moved hW.alike hK9, hD9⟩, hS.F ht⟩) hS.2.2 dX11_undo_25
  refine lv_if_eq (tgt := 24) hx hb dX11_undo_11 (by decide) (fun c7 => ?_) (fun c7 => ?_)
  · skip
    have fc7 : ra1.toInt = 0 := congrArg Int32.toInt c7
    refine lv_iconst (v := (-1)) hx hb dX11_undo_24 (by decide) ?_
    exact hJ6 ((-1)) H locs ls (by first | omega | decide) (by first | omega | decide) hP hD hS (lv_sub hl [0] rfl)
  · skip
    have fc7 : ¬ (ra1.toInt = 0) := fun h9 => c7 (Int32.toInt_inj.mp h9)
    refine lv_aload_n hx hb dX11_undo_14 rfl (lv_at hl 0 rfl) ?_
    refine va_get (D := (dC, dI)) (ci := 11) (v := .ref h3) (C := RX11) (T := TX11) (N := 17) hx hb hts (fun _ h => List.mem_cons_of_mem _ (List.mem_append_left _ (List.mem_append_left _ (List.mem_append_right _ h)))) hown hK hP 0 rfl rfl 7 (by decide) (hts (.fieldLink RX11 63 "LeftArguments" "acts" "LLeftArguments$Acts;") (List.mem_cons_of_mem _ (List.mem_append_left _ (List.mem_append_left _ (List.mem_append_left _ (List.mem_of_getElem? (i := 0) rfl)))))) (fun _ h9 => h9) rfl dX11_undo_15 ?_
    have hPc := hP.sub (ws' := [(h3, .inr (0, [.ref h4, .int x2, .int x3]))]) [3] rfl
    have hDc := hD.sub (ws' := [(h3, .inr (0, [.ref h4, .int x2, .int x3]))]) [3] (by decide) rfl
    have hKc := hK.sub (tys' := []) [] rfl
    have hFc := va_free (wc := [(h3, .inr (0, [.ref h4, .int x2, .int x3]))]) hD hS hA [3] rfl
    refine va_calli (va_runV (As := []) (rest := []) ⟨hx, hb, hml, hown, hts⟩ (k_X0_number l dC dI h3 h4 x2 x3 ⟨by first | omega | decide, by first | omega | decide⟩ ⟨by first | omega | decide, by first | omega | decide⟩ H.size) (cwV 0 hts g_X11_undo_1 rfl rfl rfl (by decide +kernel) ⟨Nat.le_of_ble_eq_true rfl, Nat.le_of_ble_eq_true rfl⟩) ⟨fun a U g mk q => by obtain ⟨q0, q1, qP, qK, qD⟩ := q; exact ⟨q0, q1, qP, va_K.moved (u := U) (U := U.calling g mk a) (Vm.Alike.refl U.vm) qK, qD⟩, va_recv hKc hPc (ci := 0) (q0 := 0) rfl rfl, fun U hU hW => ⟨rfl, by rw [hU], by rw [hU]; exact hPc, va_K.moved hW.alike hKc, hDc.weaken (fun _ _ _ _ => trivial)⟩⟩ rfl rfl hl.1 rfl (lv_room (Nat.le_of_ble_eq_true rfl)) dX11_undo_18 ⟨Nat.le_of_ble_eq_true rfl, Nat.le_of_ble_eq_true rfl⟩) hS (fun q _ h => hFc q h) hFc (fun ra8 u t H1 locs ht hvm hwra8 hB hz1 hk1 hS => ?_)
    obtain ⟨hP1, hK1, hD1⟩ := hB
    rw [ht] at hP1
    obtain ⟨hP, hD⟩ := va_join (wr := [(h0, .inr (11, [.ref r0, .ref r1, .ref r2, .ref r3, .ref r4, .ref h1, .ref r5, .ref h3, .ref r6, .ref r7, .ref r8, .ref r9, .ref r10, .ref r11, .int v0, .int v1, .long w2])), (h1, .inr (7, [.ref h2, .ref r12, .int v3, .int v4])), (h2, .inl (g0, 58, .inl fn4)), (h4, .inl (g1, 2320, .inl f8))]) (w1 := [(h3, .inr (0, [.ref h4, .int x2, .int x3]))]) hP hD [3] [0, 1, 2, 4] rfl rfl (by decide) (by decide) hk1 hFc hP1 hD1
    generalize H1 = H at hP hS ⊢
    have hP := hP.sub (ws' := [(h0, .inr (11, [.ref r0, .ref r1, .ref r2, .ref r3, .ref r4, .ref h1, .ref r5, .ref h3, .ref r6, .ref r7, .ref r8, .ref r9, .ref r10, .ref r11, .int v0, .int v1, .long w2])), (h1, .inr (7, [.ref h2, .ref r12, .int v3, .int v4])), (h2, .inl (g0, 58, .inl fn4)), (h3, .inr (0, [.ref h4, .int x2, .int x3])), (h4, .inl (g1, 2320, .inl f8))]) [0, 1, 2, 4, 3] rfl
    have hD := hD.sub (ws' := [(h0, .inr (11, [.ref r0, .ref r1, .ref r2, .ref r3, .ref r4, .ref h1, .ref r5, .ref h3, .ref r6, .ref r7, .ref r8, .ref r9, .ref r10, .ref r11, .int v0, .int v1, .long w2])), (h1, .inr (7, [.ref h2, .ref r12, .int v3, .int v4])), (h2, .inl (g0, 58, .inl fn4)), (h3, .inr (0, [.ref h4, .int x2, .int x3])), (h4, .inl (g1, 2320, .inl f8))]) [0, 1, 2, 4, 3] (by decide) rfl
    have hP : va_P (dC, dI) vwCl [(h0, .inr (11, [.ref r0, .ref r1, .ref r2, .ref r3, .ref r4, .ref h1, .ref r5, .ref h3, .ref r6, .ref r7, .ref r8, .ref r9, .ref r10, .ref r11, .int v0, .int v1, .long w2])), (h1, .inr (7, [.ref h2, .ref r12, .int v3, .int v4])), (h2, .inl (g0, 58, .inl fn4)), (h3, .inr (0, [.ref h4, .int x2, .int x3])), (h4, .inl (g1, 2320, .inl f8))] H := hP
    have hD : va_D A [(h0, .inr (11, [.ref r0, .ref r1, .ref r2, .ref r3, .ref r4, .ref h1, .ref r5, .ref h3, .ref r6, .ref r7, .ref r8, .ref r9, .ref r10, .ref r11, .int v0, .int v1, .long w2])), (h1, .inr (7, [.ref h2, .ref r12, .int v3, .int v4])), (h2, .inl (g0, 58, .inl fn4)), (h3, .inr (0, [.ref h4, .int x2, .int x3])), (h4, .inl (g1, 2320, .inl f8))] := hD
    obtain ⟨wa_ra8, wb_ra8⟩ := hwra8
    have wa_ra8 : 0 ≤ ra8.toInt := wa_ra8
    have wb_ra8 : ra8.toInt ≤ 40 := wb_ra8
    refine lv_goto (tgt := 25) hx hb dX11_undo_21 (by decide) ?_
    exact hJ6 ra8 H locs ls (by first | omega | decide) (by first | omega | decide) hP hD hS (lv_sub hl [0] rfl)
def q_X5_hasShelf : List Cond := .code yX5_hasShelf cX5_hasShelf 2 (some .boolean) :: (([.fieldLink RX5 11 "LeftArguments$Office" "rules" "[I"] : List Cond) ++ wsX50)
set_option maxHeartbeats 4000000 in
set_option maxRecDepth 100000 in
theorem k_X5_hasShelf (l : Launch) (dC : Nat → ClassId) (dI : Nat → Nat → Nat) (h0 : Nat) (h1 : Nat) (r0 : Nat) (v0 : Int32) (v1 : Int32) (g0 : ClassId) (f2 : Nat → Int32) (v3 : Int32) (i_v1 : 0 ≤ v1.toInt ∧ v1.toInt ≤ 1) (sz : Nat) : Met l yX5_hasShelf q_X5_hasShelf ({ frames := 0, cells := 0, slots := 0, locals := 0 }) (va_Pc [.ref h0, .int v3] (fun U => U.heap.size = sz ∧ va_P (dC, dI) vwCl [(h0, .inr (5, [.ref h1, .ref r0, .int v0, .int v1])), (h1, .inl (g0, 4, .inl f2))] U.heap ∧ va_K (dC, dI) vwCl [(g0, .int)] U ∧ va_D (fun _ => True) [(h0, .inr (5, [.ref h1, .ref r0, .int v0, .int v1])), (h1, .inl (g0, 4, .inl f2))])) (va_Qi (fun (r : Int32) (_ : Unit) => 0 ≤ r.toInt ∧ r.toInt ≤ 1) (fun (_ : Unit) (t : State) => va_P (dC, dI) vwCl [(h0, .inr (5, [.ref h1, .ref r0, .int v0, .int v1])), (h1, .inl (g0, 4, .inl f2))] t.heap ∧ va_K (dC, dI) vwCl [] t ∧ va_D (va_A [(h0, .inr (5, [.ref h1, .ref r0, .int v0, .int v1])), (h1, .inl (g0, 4, .inl f2))] sz) [(h0, .inr (5, [.ref h1, .ref r0, .int v0, .int v1])), (h1, .inl (g0, 4, .inl f2))]) (va_A [(h0, .inr (5, [.ref h1, .ref r0, .int v0, .int v1])), (h1, .inl (g0, 4, .inl f2))] sz)) 0 0 (va_A [(h0, .inr (5, [.ref h1, .ref r0, .int v0, .int v1])), (h1, .inl (g0, 4, .inl f2))] sz) := by
  refine Met.ofW (cc := cX5_hasShelf) (maxL := 2) (ret := (some .boolean)) (by decide) rfl ?_
  intro p e s m args below meth c s₁ B hml hv
  obtain ⟨i_v1a, i_v1b⟩ := i_v1
  obtain ⟨rfl, hsz, hP, hK, hD0⟩ := hv
  have hx := B.exec
  have hb := B.bytes
  have hr := B.returns
  have hts := atoms_spec (ws := q_X5_hasShelf) B.pre
  have hown : s.vm.findClass RX5 = some m.cls := findClass_of_methodNamed B.named
  have hlocks := B.notSynchronized
  subst hsz
  have hD := hD0.self (sz := s.heap.size)
  generalize hAe : va_A [(h0, .inr (5, [.ref h1, .ref r0, .int v0, .int v1])), (h1, .inl (g0, 4, .inl f2))] s.heap.size = A at hD ⊢
  have hA : ∀ q : Nat, s.heap.size ≤ q → A q := fun q h => by rw [← hAe]; exact Or.inr h
  have hS : va_S A s.heap s.heap [] := va_S.rf
  generalize hQ : (MQ below _ _ s 0 0 A) = Q
  have hl := lv_entry ([.ref h0, .int v3]) (n := 2) (Nat.le_of_ble_eq_true rfl)
  rw [lg_entry_eq]
  generalize (lg_sl ([.ref h0, .int v3]) ++ List.replicate (2 - (lg_sl ([.ref h0, .int v3])).length) Slot.unset).toArray = ls at hl ⊢
  have hl : lv_has ls 2 [(0, .ref h0), (1, .int v3)] := hl
  obtain ⟨H, hH⟩ : ∃ H : Heap, H = s.heap := ⟨_, rfl⟩
  obtain ⟨locs, hlocs⟩ : ∃ y : List Loc, y = [] := ⟨_, rfl⟩
  have hS : va_S A s.heap H locs := by rw [hH, hlocs]; exact va_S.rf
  have hP : va_P (dC, dI) vwCl [(h0, .inr (5, [.ref h1, .ref r0, .int v0, .int v1])), (h1, .inl (g0, 4, .inl f2))] H := by rw [hH]; exact hP
  rw [← hH, ← hlocs]
  refine lv_iload_n hx hb dX5_hasShelf_0 rfl (lv_at hl 1 rfl) ?_
  have hJ2 : ∀ (x1 : Int32) (H : Heap) (locs : List Loc) (ls : Array Slot), 0 ≤ x1.toInt → x1.toInt ≤ 1 → va_P (dC, dI) vwCl [(h0, .inr (5, [.ref h1, .ref r0, .int v0, .int v1])), (h1, .inl (g0, 4, .inl f2))] H → va_D A [(h0, .inr (5, [.ref h1, .ref r0, .int v0, .int v1])), (h1, .inl (g0, 4, .inl f2))] → va_S A s.heap H locs → lv_has ls 2 [(0, .ref h0), (1, .int v3)] → W p l e ({ frames := 0, cells := 0, slots := 0, locals := 0 }) s m ([.ref h0, .int v3] : List Value).toArray below meth c H locs 0 0 Q (F0 m 19 ls [.int x1]) := by
    intro x1 H locs ls qa_x1 qb_x1 hP hD hS hl
    subst hQ
    have hP9 := hP.sub (ws' := [(h0, .inr (5, [.ref h1, .ref r0, .int v0, .int v1])), (h1, .inl (g0, 4, .inl f2))]) [0, 1] rfl
    have hD9 := hD.sub (ws' := [(h0, .inr (5, [.ref h1, .ref r0, .int v0, .int v1])), (h1, .inl (g0, 4, .inl f2))]) [0, 1] (by decide) rfl
    have hK9 := hK.sub (tys' := []) [] rfl
    exact W.zret (v := x1) hx hb hr (pv_nz (by omega) (by omega)) (fun t ht hW => ⟨⟨x1, (), rfl, ⟨by first | omega | decide, by first | omega | decide⟩, by rw [ht]; exact hP9, va_K.moved hW.alike hK9, hD9⟩, hS.F ht⟩) hS.2.2 dX5_hasShelf_19
  refine lv_if_lt (tgt := 18) hx hb dX5_hasShelf_1 (by decide) (fun c3 => ?_) (fun c3 => ?_)
  · skip
    have fc3 : v3.toInt < 0 := Int32.lt_iff_toInt_lt.mp c3
    refine lv_iconst (v := 0) hx hb dX5_hasShelf_18 (by decide) ?_
    exact hJ2 0 H locs ls (by first | omega | decide) (by first | omega | decide) hP hD hS (lv_sub hl [0, 1] rfl)
  · skip
    have fc3 : ¬ (v3.toInt < 0) := fun h9 => c3 (Int32.lt_iff_toInt_lt.mpr h9)
    refine lv_iload_n hx hb dX5_hasShelf_4 rfl (lv_at hl 1 rfl) ?_
    refine lv_aload_n hx hb dX5_hasShelf_5 rfl (lv_at hl 0 rfl) ?_
    refine va_get (D := (dC, dI)) (ci := 5) (v := .ref h1) (C := RX5) (T := TX5) (N := 4) hx hb hts (fun _ h => List.mem_cons_of_mem _ (List.mem_append_right _ h)) hown hK hP 0 rfl rfl 0 (by decide) (hts (.fieldLink RX5 11 "LeftArguments$Office" "rules" "[I") (List.mem_cons_of_mem _ (List.mem_append_left _ (List.mem_of_getElem? (i := 0) rfl)))) (fun _ h9 => h9) rfl dX5_hasShelf_6 ?_
    refine lv_iconst (v := 1) hx hb dX5_hasShelf_9 (by decide) ?_
    refine va_iald hx hb hK hP 1 0 rfl rfl (pv_c (x := 1) (n := 4) (by decide)) dX5_hasShelf_10 ?_
    refine lv_topi (fun t4 et4 => ?_)
    refine lv_icmp_ge (tgt := 18) hx hb dX5_hasShelf_11 (by decide) (fun c5 => ?_) (fun c5 => ?_)
    · skip
      have fc5 : t4.toInt ≤ v3.toInt := Int32.le_iff_toInt_le.mp c5
      have r1c5 := Int32.toInt_lt v3
      have r2c5 := Int32.toInt_lt t4
      have r3c5 := Int32.le_toInt v3
      have r4c5 := Int32.le_toInt t4
      refine lv_iconst (v := 0) hx hb dX5_hasShelf_18 (by decide) ?_
      exact hJ2 0 H locs ls (by first | omega | decide) (by first | omega | decide) hP hD hS (lv_sub hl [0, 1] rfl)
    · skip
      have fc5 : ¬ (t4.toInt ≤ v3.toInt) := fun h9 => c5 (Int32.le_iff_toInt_le.mpr h9)
      have r1c5 := Int32.toInt_lt v3
      have r2c5 := Int32.toInt_lt t4
      have r3c5 := Int32.le_toInt v3
      have r4c5 := Int32.le_toInt t4
      refine lv_iconst (v := 1) hx hb dX5_hasShelf_14 (by decide) ?_
      refine lv_goto (tgt := 19) hx hb dX5_hasShelf_15 (by decide) ?_
      exact hJ2 1 H locs ls (by first | omega | decide) (by first | omega | decide) hP hD hS (lv_sub hl [0, 1] rfl)
def q_X5_ruleOf : List Cond := .code yX5_ruleOf cX5_ruleOf 2 (some .int) :: (([.fieldLink RX5 11 "LeftArguments$Office" "rules" "[I"] : List Cond) ++ wsX50)
set_option maxHeartbeats 4000000 in
set_option maxRecDepth 100000 in
theorem k_X5_ruleOf (l : Launch) (dC : Nat → ClassId) (dI : Nat → Nat → Nat) (h0 : Nat) (h1 : Nat) (r0 : Nat) (v0 : Int32) (v1 : Int32) (g0 : ClassId) (f2 : Nat → Int32) (v3 : Int32) (i_v1 : 0 ≤ v1.toInt ∧ v1.toInt ≤ 1) (sz : Nat) : Met l yX5_ruleOf q_X5_ruleOf ({ frames := 0, cells := 0, slots := 0, locals := 0 }) (va_Pc [.ref h0, .int v3] (fun U => U.heap.size = sz ∧ va_P (dC, dI) vwCl [(h0, .inr (5, [.ref h1, .ref r0, .int v0, .int v1])), (h1, .inl (g0, 4, .inl f2))] U.heap ∧ va_K (dC, dI) vwCl [(g0, .int)] U ∧ va_D (fun _ => True) [(h0, .inr (5, [.ref h1, .ref r0, .int v0, .int v1])), (h1, .inl (g0, 4, .inl f2))])) (va_Qi (fun (r : Int32) (_ : Unit) => True) (fun (_ : Unit) (t : State) => va_P (dC, dI) vwCl [(h0, .inr (5, [.ref h1, .ref r0, .int v0, .int v1])), (h1, .inl (g0, 4, .inl f2))] t.heap ∧ va_K (dC, dI) vwCl [] t ∧ va_D (va_A [(h0, .inr (5, [.ref h1, .ref r0, .int v0, .int v1])), (h1, .inl (g0, 4, .inl f2))] sz) [(h0, .inr (5, [.ref h1, .ref r0, .int v0, .int v1])), (h1, .inl (g0, 4, .inl f2))]) (va_A [(h0, .inr (5, [.ref h1, .ref r0, .int v0, .int v1])), (h1, .inl (g0, 4, .inl f2))] sz)) 0 0 (va_A [(h0, .inr (5, [.ref h1, .ref r0, .int v0, .int v1])), (h1, .inl (g0, 4, .inl f2))] sz) := by
  refine Met.ofW (cc := cX5_ruleOf) (maxL := 2) (ret := (some .int)) (by decide) rfl ?_
  intro p e s m args below meth c s₁ B hml hv
  obtain ⟨i_v1a, i_v1b⟩ := i_v1
  obtain ⟨rfl, hsz, hP, hK, hD0⟩ := hv
  have hx := B.exec
  have hb := B.bytes
  have hr := B.returns
  have hts := atoms_spec (ws := q_X5_ruleOf) B.pre
  have hown : s.vm.findClass RX5 = some m.cls := findClass_of_methodNamed B.named
  have hlocks := B.notSynchronized
  subst hsz
  have hD := hD0.self (sz := s.heap.size)
  generalize hAe : va_A [(h0, .inr (5, [.ref h1, .ref r0, .int v0, .int v1])), (h1, .inl (g0, 4, .inl f2))] s.heap.size = A at hD ⊢
  have hA : ∀ q : Nat, s.heap.size ≤ q → A q := fun q h => by rw [← hAe]; exact Or.inr h
  have hS : va_S A s.heap s.heap [] := va_S.rf
  generalize hQ : (MQ below _ _ s 0 0 A) = Q
  have hl := lv_entry ([.ref h0, .int v3]) (n := 2) (Nat.le_of_ble_eq_true rfl)
  rw [lg_entry_eq]
  generalize (lg_sl ([.ref h0, .int v3]) ++ List.replicate (2 - (lg_sl ([.ref h0, .int v3])).length) Slot.unset).toArray = ls at hl ⊢
  have hl : lv_has ls 2 [(0, .ref h0), (1, .int v3)] := hl
  obtain ⟨H, hH⟩ : ∃ H : Heap, H = s.heap := ⟨_, rfl⟩
  obtain ⟨locs, hlocs⟩ : ∃ y : List Loc, y = [] := ⟨_, rfl⟩
  have hS : va_S A s.heap H locs := by rw [hH, hlocs]; exact va_S.rf
  have hP : va_P (dC, dI) vwCl [(h0, .inr (5, [.ref h1, .ref r0, .int v0, .int v1])), (h1, .inl (g0, 4, .inl f2))] H := by rw [hH]; exact hP
  rw [← hH, ← hlocs]
  refine lv_iload_n hx hb dX5_ruleOf_0 rfl (lv_at hl 1 rfl) ?_
  have hJ2 : ∀ (x1 : Int32) (H : Heap) (locs : List Loc) (ls : Array Slot), va_P (dC, dI) vwCl [(h0, .inr (5, [.ref h1, .ref r0, .int v0, .int v1])), (h1, .inl (g0, 4, .inl f2))] H → va_D A [(h0, .inr (5, [.ref h1, .ref r0, .int v0, .int v1])), (h1, .inl (g0, 4, .inl f2))] → va_S A s.heap H locs → lv_has ls 2 [(0, .ref h0), (1, .int v3)] → W p l e ({ frames := 0, cells := 0, slots := 0, locals := 0 }) s m ([.ref h0, .int v3] : List Value).toArray below meth c H locs 0 0 Q (F0 m 19 ls [.int x1]) := by
    intro x1 H locs ls hP hD hS hl
    subst hQ
    have hP9 := hP.sub (ws' := [(h0, .inr (5, [.ref h1, .ref r0, .int v0, .int v1])), (h1, .inl (g0, 4, .inl f2))]) [0, 1] rfl
    have hD9 := hD.sub (ws' := [(h0, .inr (5, [.ref h1, .ref r0, .int v0, .int v1])), (h1, .inl (g0, 4, .inl f2))]) [0, 1] (by decide) rfl
    have hK9 := hK.sub (tys' := []) [] rfl
    exact W.iret (v := x1) hx hb hr (fun t ht hW => ⟨⟨x1, (), rfl, trivial, by rw [ht]; exact hP9, va_K.moved hW.alike hK9, hD9⟩, hS.F ht⟩) hS.2.2 dX5_ruleOf_19
  refine lv_if_lt (tgt := 18) hx hb dX5_ruleOf_1 (by decide) (fun c3 => ?_) (fun c3 => ?_)
  · skip
    have fc3 : v3.toInt < 0 := Int32.lt_iff_toInt_lt.mp c3
    refine lv_iconst (v := 0) hx hb dX5_ruleOf_18 (by decide) ?_
    exact hJ2 0 H locs ls hP hD hS (lv_sub hl [0, 1] rfl)
  · skip
    have fc3 : ¬ (v3.toInt < 0) := fun h9 => c3 (Int32.lt_iff_toInt_lt.mpr h9)
    refine lv_iload_n hx hb dX5_ruleOf_4 rfl (lv_at hl 1 rfl) ?_
    refine lv_iconst (v := 4) hx hb dX5_ruleOf_5 (by decide) ?_
    refine lv_icmp_ge (tgt := 18) hx hb dX5_ruleOf_6 (by decide) (fun c4 => ?_) (fun c4 => ?_)
    · skip
      have fc4 : 4 ≤ v3.toInt := Int32.le_iff_toInt_le.mp c4
      refine lv_iconst (v := 0) hx hb dX5_ruleOf_18 (by decide) ?_
      exact hJ2 0 H locs ls hP hD hS (lv_sub hl [0, 1] rfl)
    · skip
      have fc4 : ¬ (4 ≤ v3.toInt) := fun h9 => c4 (Int32.le_iff_toInt_le.mpr h9)
      refine lv_aload_n hx hb dX5_ruleOf_9 rfl (lv_at hl 0 rfl) ?_
      refine va_get (D := (dC, dI)) (ci := 5) (v := .ref h1) (C := RX5) (T := TX5) (N := 4) hx hb hts (fun _ h => List.mem_cons_of_mem _ (List.mem_append_right _ h)) hown hK hP 0 rfl rfl 0 (by decide) (hts (.fieldLink RX5 11 "LeftArguments$Office" "rules" "[I") (List.mem_cons_of_mem _ (List.mem_append_left _ (List.mem_of_getElem? (i := 0) rfl)))) (fun _ h9 => h9) rfl dX5_ruleOf_10 ?_
      refine lv_iload_n hx hb dX5_ruleOf_13 rfl (lv_at hl 1 rfl) ?_
      refine va_iald hx hb hK hP 1 0 rfl rfl (vp_in_iff.mpr ⟨by omega, by omega⟩) dX5_ruleOf_14 ?_
      refine lv_topi (fun t5 et5 => ?_)
      refine lv_goto (tgt := 19) hx hb dX5_ruleOf_15 (by decide) ?_
      exact hJ2 t5 H locs ls hP hD hS (lv_sub hl [0, 1] rfl)
def q_X7_gain : List Cond := .code yX7_gain cX7_gain 2 none :: (([.fieldLink RX7 11 "LeftArguments$Room" "cells" "[I", .methodLink RX7 62 Lib.Math.min.name, .static Lib.Math.min.name, .initialized "java/lang/Math", .code Lib.Math.min.name Lib.Math.min.code 2 (some .int)] : List Cond) ++ wsX70)
set_option maxHeartbeats 4000000 in
set_option maxRecDepth 100000 in
theorem k_X7_gain (l : Launch) (dC : Nat → ClassId) (dI : Nat → Nat → Nat) (h0 : Nat) (h1 : Nat) (r0 : Nat) (v0 : Int32) (v1 : Int32) (g0 : ClassId) (f2 : Nat → Int32) (v3 : Int32) (sz : Nat) : Met l yX7_gain q_X7_gain ({ frames := 1, cells := 0, slots := 0, locals := 15 }) (va_Pc [.ref h0, .int v3] (fun U => U.heap.size = sz ∧ va_P (dC, dI) vwCl [(h0, .inr (7, [.ref h1, .ref r0, .int v0, .int v1])), (h1, .inl (g0, 58, .inl f2))] U.heap ∧ va_K (dC, dI) vwCl [(g0, .int)] U ∧ va_D (fun _ => True) [(h0, .inr (7, [.ref h1, .ref r0, .int v0, .int v1])), (h1, .inl (g0, 58, .inl f2))])) (va_Qv (fun (_ : Unit) => True) (fun (_ : Unit) (t : State) => ∃ (o_h1 : Nat → Int32), va_P (dC, dI) vwCl [(h0, .inr (7, [.ref h1, .ref r0, .int v0, .int v1])), (h1, .inl (g0, 58, .inl o_h1))] t.heap ∧ va_K (dC, dI) vwCl [] t ∧ va_D (va_A [(h0, .inr (7, [.ref h1, .ref r0, .int v0, .int v1])), (h1, .inl (g0, 58, .inl f2))] sz) [(h0, .inr (7, [.ref h1, .ref r0, .int v0, .int v1])), (h1, .inl (g0, 58, .inl o_h1))]) (va_A [(h0, .inr (7, [.ref h1, .ref r0, .int v0, .int v1])), (h1, .inl (g0, 58, .inl f2))] sz)) 0 0 (va_A [(h0, .inr (7, [.ref h1, .ref r0, .int v0, .int v1])), (h1, .inl (g0, 58, .inl f2))] sz) := by
  refine Met.ofW (cc := cX7_gain) (maxL := 2) (ret := none) (by decide) rfl ?_
  intro p e s m args below meth c s₁ B hml hv
  obtain ⟨rfl, hsz, hP, hK, hD0⟩ := hv
  have hx := B.exec
  have hb := B.bytes
  have hr := B.returns
  have hts := atoms_spec (ws := q_X7_gain) B.pre
  have hown : s.vm.findClass RX7 = some m.cls := findClass_of_methodNamed B.named
  have hlocks := B.notSynchronized
  subst hsz
  have hD := hD0.self (sz := s.heap.size)
  generalize hAe : va_A [(h0, .inr (7, [.ref h1, .ref r0, .int v0, .int v1])), (h1, .inl (g0, 58, .inl f2))] s.heap.size = A at hD ⊢
  have hA : ∀ q : Nat, s.heap.size ≤ q → A q := fun q h => by rw [← hAe]; exact Or.inr h
  have hS : va_S A s.heap s.heap [] := va_S.rf
  generalize hQ : (MQ below _ _ s 0 0 A) = Q
  have hl := lv_entry ([.ref h0, .int v3]) (n := 2) (Nat.le_of_ble_eq_true rfl)
  rw [lg_entry_eq]
  generalize (lg_sl ([.ref h0, .int v3]) ++ List.replicate (2 - (lg_sl ([.ref h0, .int v3])).length) Slot.unset).toArray = ls at hl ⊢
  have hl : lv_has ls 2 [(0, .ref h0), (1, .int v3)] := hl
  obtain ⟨H, hH⟩ : ∃ H : Heap, H = s.heap := ⟨_, rfl⟩
  obtain ⟨locs, hlocs⟩ : ∃ y : List Loc, y = [] := ⟨_, rfl⟩
  have hS : va_S A s.heap H locs := by rw [hH, hlocs]; exact va_S.rf
  have hP : va_P (dC, dI) vwCl [(h0, .inr (7, [.ref h1, .ref r0, .int v0, .int v1])), (h1, .inl (g0, 58, .inl f2))] H := by rw [hH]; exact hP
  rw [← hH, ← hlocs]
  refine lv_aload_n hx hb dX7_gain_0 rfl (lv_at hl 0 rfl) ?_
  refine va_get (D := (dC, dI)) (ci := 7) (v := .ref h1) (C := RX7) (T := TX7) (N := 4) hx hb hts (fun _ h => List.mem_cons_of_mem _ (List.mem_append_right _ h)) hown hK hP 0 rfl rfl 0 (by decide) (hts (.fieldLink RX7 11 "LeftArguments$Room" "cells" "[I") (List.mem_cons_of_mem _ (List.mem_append_left _ (List.mem_of_getElem? (i := 0) rfl)))) (fun _ h9 => h9) rfl dX7_gain_1 ?_
  refine lv_bipush (v := 56) hx hb dX7_gain_4 (by decide) ?_
  refine lv_sipush (v := 999) hx hb dX7_gain_6 (by decide) ?_
  refine lv_aload_n hx hb dX7_gain_9 rfl (lv_at hl 0 rfl) ?_
  refine va_get (D := (dC, dI)) (ci := 7) (v := .ref h1) (C := RX7) (T := TX7) (N := 4) hx hb hts (fun _ h => List.mem_cons_of_mem _ (List.mem_append_right _ h)) hown hK hP 0 rfl rfl 0 (by decide) (hts (.fieldLink RX7 11 "LeftArguments$Room" "cells" "[I") (List.mem_cons_of_mem _ (List.mem_append_left _ (List.mem_of_getElem? (i := 0) rfl)))) (fun _ h9 => h9) rfl dX7_gain_10 ?_
  refine lv_bipush (v := 56) hx hb dX7_gain_13 (by decide) ?_
  refine va_iald hx hb hK hP 1 0 rfl rfl (pv_c (x := 56) (n := 58) (by decide)) dX7_gain_15 ?_
  refine lv_topi (fun t1 et1 => ?_)
  refine lv_iload_n hx hb dX7_gain_16 rfl (lv_at hl 1 rfl) ?_
  refine lv_iadd hx hb dX7_gain_17 ?_
  refine lv_topi (fun t2 et2 => ?_)
  refine va_mmin hx hb (by rw [hml]; exact hl.1.symm) hown (hts (.methodLink RX7 62 Lib.Math.min.name) (List.mem_cons_of_mem _ (List.mem_append_left _ (List.mem_of_getElem? (i := 1) rfl)))) (hts (.static Lib.Math.min.name) (List.mem_cons_of_mem _ (List.mem_append_left _ (List.mem_of_getElem? (i := 2) rfl)))) (hts (.initialized "java/lang/Math") (List.mem_cons_of_mem _ (List.mem_append_left _ (List.mem_of_getElem? (i := 3) rfl)))) (hts (.code Lib.Math.min.name Lib.Math.min.code 2 (some .int)) (List.mem_cons_of_mem _ (List.mem_append_left _ (List.mem_of_getElem? (i := 4) rfl)))) (Nat.le_of_ble_eq_true rfl) (Nat.le_of_ble_eq_true rfl) (Nat.le_of_ble_eq_true rfl) (Nat.le_of_ble_eq_true rfl) dX7_gain_18 ?_
  refine lv_topi (fun t3 et3 => ?_)
  obtain ⟨gat3, gbt3, gct3⟩ := pv_min (a := 999) (b := t2.toInt) et3 (by decide) rfl
  refine va_iast hx hb hK hP hD hS 1 0 rfl rfl (pv_c (x := 56) (n := 58) (by decide)) dX7_gain_21 (fun H locs hP hD hS => ?_)
  obtain ⟨fn4, efn4⟩ : ∃ g : Nat → Int32, g = upd f2 (Int32.toNatClampNeg 56) t3 := ⟨_, rfl⟩
  rw [← efn4] at hP hD
  have hP : va_P (dC, dI) vwCl [(h0, .inr (7, [.ref h1, .ref r0, .int v0, .int v1])), (h1, .inl (g0, 58, .inl fn4))] H := hP
  have hD : va_D A [(h0, .inr (7, [.ref h1, .ref r0, .int v0, .int v1])), (h1, .inl (g0, 58, .inl fn4))] := hD
  subst hQ
  have hP9 := hP.sub (ws' := [(h0, .inr (7, [.ref h1, .ref r0, .int v0, .int v1])), (h1, .inl (g0, 58, .inl fn4))]) [0, 1] rfl
  have hD9 := hD.sub (ws' := [(h0, .inr (7, [.ref h1, .ref r0, .int v0, .int v1])), (h1, .inl (g0, 58, .inl fn4))]) [0, 1] (by decide) rfl
  have hK9 := hK.sub (tys' := []) [] rfl
  exact W.vret hx hb hr (fun t ht hW => ⟨⟨(), rfl, trivial, fn4, by rw [ht]; exact hP9, va_K.moved hW.alike hK9, hD9⟩, hS.F ht⟩) hS.2.2 dX7_gain_22
def q_X7_due : List Cond := .code yX7_due cX7_due 3 (some .int) :: (([.code yX7_has cX7_has 2 (some .boolean), .fieldLink RX7 11 "LeftArguments$Room" "cells" "[I", .initialized RX7, .instanceMethod yX7_has, .selects RX7 yX7_has yX7_has, .methodLink RX7 70 yX7_has, .code yX7_of cX7_of 3 (some .int), .instanceMethod yX7_of, .selects RX7 yX7_of yX7_of, .methodLink RX7 74 yX7_of, .code yX5_ruleOf cX5_ruleOf 2 (some .int), .fieldLink RX5 11 "LeftArguments$Office" "rules" "[I", .initialized RX5, .instanceMethod yX5_ruleOf, .selects RX5 yX5_ruleOf yX5_ruleOf, .methodLink RX7 30 yX5_ruleOf] : List Cond) ++ wsX70 ++ wsX50)
set_option maxRecDepth 20000 in
theorem g_X7_due_0 : GoodIn q_X7_due (wsV RX7 70 RX7 yX7_has q_X7_has) := goodIn_app (goodIn_r _ [6, 4, 5, 3] (by decide +kernel) (by decide +kernel)) (goodIn_ca (goodIn_r (.code yX7_has cX7_has 2 (some .boolean) :: [.fieldLink RX7 11 "LeftArguments$Room" "cells" "[I"]) [1, 2] (by decide +kernel) (by decide +kernel)) (goodIn_sub (fun _ h => List.mem_cons_of_mem _ (List.mem_append_left _ (List.mem_append_right _ h))) gwX7))
set_option maxRecDepth 20000 in
theorem g_X7_due_1 : GoodIn q_X7_due (wsV RX7 74 RX7 yX7_of q_X7_of) := goodIn_app (goodIn_r _ [10, 8, 9, 3] (by decide +kernel) (by decide +kernel)) (goodIn_ca (goodIn_r (.code yX7_of cX7_of 3 (some .int) :: [.fieldLink RX7 11 "LeftArguments$Room" "cells" "[I"]) [7, 2] (by decide +kernel) (by decide +kernel)) (goodIn_sub (fun _ h => List.mem_cons_of_mem _ (List.mem_append_left _ (List.mem_append_right _ h))) gwX7))
set_option maxRecDepth 20000 in
theorem g_X7_due_2 : GoodIn q_X7_due (wsV RX7 30 RX5 yX5_ruleOf q_X5_ruleOf) := goodIn_app (goodIn_r _ [16, 14, 15, 13] (by decide +kernel) (by decide +kernel)) (goodIn_ca (goodIn_r (.code yX5_ruleOf cX5_ruleOf 2 (some .int) :: [.fieldLink RX5 11 "LeftArguments$Office" "rules" "[I"]) [11, 12] (by decide +kernel) (by decide +kernel)) (goodIn_sub (fun _ h => List.mem_cons_of_mem _ (List.mem_append_right _ h)) gwX5))
set_option maxHeartbeats 4000000 in
set_option maxRecDepth 100000 in
theorem k_X7_due (l : Launch) (dC : Nat → ClassId) (dI : Nat → Nat → Nat) (h0 : Nat) (h1 : Nat) (h2 : Nat) (h3 : Nat) (r0 : Nat) (v0 : Int32) (v1 : Int32) (r1 : Nat) (v2 : Int32) (v3 : Int32) (g0 : ClassId) (f4 : Nat → Int32) (g1 : ClassId) (f5 : Nat → Int32) (v6 : Int32) (i_v3 : 0 ≤ v3.toInt ∧ v3.toInt ≤ 1) (sz : Nat) : Met l yX7_due q_X7_due ({ frames := 1, cells := 0, slots := 0, locals := 22 }) (va_Pc [.ref h0, .int v6, .ref h1] (fun U => U.heap.size = sz ∧ va_P (dC, dI) vwCl [(h0, .inr (7, [.ref h3, .ref r0, .int v0, .int v1])), (h1, .inr (5, [.ref h2, .ref r1, .int v2, .int v3])), (h2, .inl (g0, 4, .inl f4)), (h3, .inl (g1, 58, .inl f5))] U.heap ∧ va_K (dC, dI) vwCl [(g0, .int), (g1, .int)] U ∧ va_D (fun _ => True) [(h0, .inr (7, [.ref h3, .ref r0, .int v0, .int v1])), (h1, .inr (5, [.ref h2, .ref r1, .int v2, .int v3])), (h2, .inl (g0, 4, .inl f4)), (h3, .inl (g1, 58, .inl f5))])) (va_Qi (fun (r : Int32) (_ : Unit) => True) (fun (_ : Unit) (t : State) => va_P (dC, dI) vwCl [(h0, .inr (7, [.ref h3, .ref r0, .int v0, .int v1])), (h1, .inr (5, [.ref h2, .ref r1, .int v2, .int v3])), (h2, .inl (g0, 4, .inl f4)), (h3, .inl (g1, 58, .inl f5))] t.heap ∧ va_K (dC, dI) vwCl [] t ∧ va_D (va_A [(h0, .inr (7, [.ref h3, .ref r0, .int v0, .int v1])), (h1, .inr (5, [.ref h2, .ref r1, .int v2, .int v3])), (h2, .inl (g0, 4, .inl f4)), (h3, .inl (g1, 58, .inl f5))] sz) [(h0, .inr (7, [.ref h3, .ref r0, .int v0, .int v1])), (h1, .inr (5, [.ref h2, .ref r1, .int v2, .int v3])), (h2, .inl (g0, 4, .inl f4)), (h3, .inl (g1, 58, .inl f5))]) (va_A [(h0, .inr (7, [.ref h3, .ref r0, .int v0, .int v1])), (h1, .inr (5, [.ref h2, .ref r1, .int v2, .int v3])), (h2, .inl (g0, 4, .inl f4)), (h3, .inl (g1, 58, .inl f5))] sz)) 0 0 (va_A [(h0, .inr (7, [.ref h3, .ref r0, .int v0, .int v1])), (h1, .inr (5, [.ref h2, .ref r1, .int v2, .int v3])), (h2, .inl (g0, 4, .inl f4)), (h3, .inl (g1, 58, .inl f5))] sz) := by
  refine Met.ofW (cc := cX7_due) (maxL := 3) (ret := (some .int)) (by decide) rfl ?_
  intro p e s m args below meth c s₁ B hml hv
  obtain ⟨i_v3a, i_v3b⟩ := i_v3
  obtain ⟨rfl, hsz, hP, hK, hD0⟩ := hv
  have hx := B.exec
  have hb := B.bytes
  have hr := B.returns
  have hts := atoms_spec (ws := q_X7_due) B.pre
  have hown : s.vm.findClass RX7 = some m.cls := findClass_of_methodNamed B.named
  have hlocks := B.notSynchronized
  subst hsz
  have hD := hD0.self (sz := s.heap.size)
  generalize hAe : va_A [(h0, .inr (7, [.ref h3, .ref r0, .int v0, .int v1])), (h1, .inr (5, [.ref h2, .ref r1, .int v2, .int v3])), (h2, .inl (g0, 4, .inl f4)), (h3, .inl (g1, 58, .inl f5))] s.heap.size = A at hD ⊢
  have hA : ∀ q : Nat, s.heap.size ≤ q → A q := fun q h => by rw [← hAe]; exact Or.inr h
  have hS : va_S A s.heap s.heap [] := va_S.rf
  generalize hQ : (MQ below _ _ s 0 0 A) = Q
  have hl := lv_entry ([.ref h0, .int v6, .ref h1]) (n := 3) (Nat.le_of_ble_eq_true rfl)
  rw [lg_entry_eq]
  generalize (lg_sl ([.ref h0, .int v6, .ref h1]) ++ List.replicate (3 - (lg_sl ([.ref h0, .int v6, .ref h1])).length) Slot.unset).toArray = ls at hl ⊢
  have hl : lv_has ls 3 [(0, .ref h0), (1, .int v6), (2, .ref h1)] := hl
  obtain ⟨H, hH⟩ : ∃ H : Heap, H = s.heap := ⟨_, rfl⟩
  obtain ⟨locs, hlocs⟩ : ∃ y : List Loc, y = [] := ⟨_, rfl⟩
  have hS : va_S A s.heap H locs := by rw [hH, hlocs]; exact va_S.rf
  have hP : va_P (dC, dI) vwCl [(h0, .inr (7, [.ref h3, .ref r0, .int v0, .int v1])), (h1, .inr (5, [.ref h2, .ref r1, .int v2, .int v3])), (h2, .inl (g0, 4, .inl f4)), (h3, .inl (g1, 58, .inl f5))] H := by rw [hH]; exact hP
  rw [← hH, ← hlocs]
  refine lv_aload_n hx hb dX7_due_0 rfl (lv_at hl 0 rfl) ?_
  refine lv_iload_n hx hb dX7_due_1 rfl (lv_at hl 1 rfl) ?_
  have hPc := hP.sub (ws' := [(h0, .inr (7, [.ref h3, .ref r0, .int v0, .int v1])), (h3, .inl (g1, 58, .inl f5))]) [0, 3] rfl
  have hDc := hD.sub (ws' := [(h0, .inr (7, [.ref h3, .ref r0, .int v0, .int v1])), (h3, .inl (g1, 58, .inl f5))]) [0, 3] (by decide) rfl
  have hKc := hK.sub (tys' := [(g1, .int)]) [1] rfl
  have hFc := va_free (wc := [(h0, .inr (7, [.ref h3, .ref r0, .int v0, .int v1])), (h3, .inl (g1, 58, .inl f5))]) hD hS hA [0, 3] rfl
  refine va_calli (va_runV (As := [.int v6]) (rest := []) ⟨hx, hb, hml, hown, hts⟩ (k_X7_has l dC dI h0 h3 r0 v0 v1 g1 f5 v6  H.size) (cwV 1 hts g_X7_due_0 rfl rfl rfl (by decide +kernel) ⟨Nat.le_of_ble_eq_true rfl, Nat.le_of_ble_eq_true rfl⟩) ⟨fun a U g mk q => by obtain ⟨q0, q1, qP, qK, qD⟩ := q; exact ⟨q0, q1, qP, va_K.moved (u := U) (U := U.calling g mk a) (Vm.Alike.refl U.vm) qK, qD⟩, va_recv hKc hPc (ci := 7) (q0 := 0) rfl rfl, fun U hU hW => ⟨rfl, by rw [hU], by rw [hU]; exact hPc, va_K.moved hW.alike hKc, hDc.weaken (fun _ _ _ _ => trivial)⟩⟩ rfl rfl hl.1 rfl (lv_room (Nat.le_of_ble_eq_true rfl)) dX7_due_2 ⟨Nat.le_of_ble_eq_true rfl, Nat.le_of_ble_eq_true rfl⟩) hS (fun q _ h => hFc q h) hFc (fun ra1 u t H1 locs ht hvm hwra1 hB hz1 hk1 hS => ?_)
  obtain ⟨hP1, hK1, hD1⟩ := hB
  rw [ht] at hP1
  obtain ⟨hP, hD⟩ := va_join (wr := [(h1, .inr (5, [.ref h2, .ref r1, .int v2, .int v3])), (h2, .inl (g0, 4, .inl f4))]) (w1 := [(h0, .inr (7, [.ref h3, .ref r0, .int v0, .int v1])), (h3, .inl (g1, 58, .inl f5))]) hP hD [0, 3] [1, 2] rfl rfl (by decide) (by decide) hk1 hFc hP1 hD1
  generalize H1 = H at hP hS ⊢
  have hP := hP.sub (ws' := [(h0, .inr (7, [.ref h3, .ref r0, .int v0, .int v1])), (h1, .inr (5, [.ref h2, .ref r1, .int v2, .int v3])), (h2, .inl (g0, 4, .inl f4)), (h3, .inl (g1, 58, .inl f5))]) [2, 0, 1, 3] rfl
  have hD := hD.sub (ws' := [(h0, .inr (7, [.ref h3, .ref r0, .int v0, .int v1])), (h1, .inr (5, [.ref h2, .ref r1, .int v2, .int v3])), (h2, .inl (g0, 4, .inl f4)), (h3, .inl (g1, 58, .inl f5))]) [2, 0, 1, 3] (by decide) rfl
  have hP : va_P (dC, dI) vwCl [(h0, .inr (7, [.ref h3, .ref r0, .int v0, .int v1])), (h1, .inr (5, [.ref h2, .ref r1, .int v2, .int v3])), (h2, .inl (g0, 4, .inl f4)), (h3, .inl (g1, 58, .inl f5))] H := hP
  have hD : va_D A [(h0, .inr (7, [.ref h3, .ref r0, .int v0, .int v1])), (h1, .inr (5, [.ref h2, .ref r1, .int v2, .int v3])), (h2, .inl (g0, 4, .inl f4)), (h3, .inl (g1, 58, .inl f5))] := hD
  obtain ⟨wa_ra1, wb_ra1⟩ := hwra1
  have wa_ra1 : 0 ≤ ra1.toInt := wa_ra1
  have wb_ra1 : ra1.toInt ≤ 1 := wb_ra1
  have hJ3 : ∀ (x2 : Int32) (H : Heap) (locs : List Loc) (ls : Array Slot), va_P (dC, dI) vwCl [(h0, .inr (7, [.ref h3, .ref r0, .int v0, .int v1])), (h1, .inr (5, [.ref h2, .ref r1, .int v2, .int v3])), (h2, .inl (g0, 4, .inl f4)), (h3, .inl (g1, 58, .inl f5))] H → va_D A [(h0, .inr (7, [.ref h3, .ref r0, .int v0, .int v1])), (h1, .inr (5, [.ref h2, .ref r1, .int v2, .int v3])), (h2, .inl (g0, 4, .inl f4)), (h3, .inl (g1, 58, .inl f5))] → va_S A s.heap H locs → lv_has ls 3 [(0, .ref h0), (1, .int v6), (2, .ref h1)] → W p l e ({ frames := 1, cells := 0, slots := 0, locals := 22 }) s m ([.ref h0, .int v6, .ref h1] : List Value).toArray below meth c H locs 0 0 Q (F0 m 24 ls [.int x2]) := by
    intro x2 H locs ls hP hD hS hl
    subst hQ
    have hP9 := hP.sub (ws' := [(h0, .inr (7, [.ref h3, .ref r0, .int v0, .int v1])), (h1, .inr (5, [.ref h2, .ref r1, .int v2, .int v3])), (h2, .inl (g0, 4, .inl f4)), (h3, .inl (g1, 58, .inl f5))]) [0, 1, 2, 3] rfl
    have hD9 := hD.sub (ws' := [(h0, .inr (7, [.ref h3, .ref r0, .int v0, .int v1])), (h1, .inr (5, [.ref h2, .ref r1, .int v2, .int v3])), (h2, .inl (g0, 4, .inl f4)), (h3, .inl (g1, 58, .inl f5))]) [0, 1, 2, 3] (by decide) rfl
    have hK9 := hK.sub (tys' := []) [] rfl
    exact W.iret (v := x2) hx hb hr (fun t ht hW => ⟨⟨x2, (), rfl, trivial, by rw [ht]; exact hP9, va_K.moved hW.alike hK9, hD9⟩, hS.F ht⟩) hS.2.2 dX7_due_24
  refine lv_if_eq (tgt := 23) hx hb dX7_due_5 (by decide) (fun c4 => ?_) (fun c4 => ?_)
  · skip
    have fc4 : ra1.toInt = 0 := congrArg Int32.toInt c4
    refine lv_iconst (v := 0) hx hb dX7_due_23 (by decide) ?_
    exact hJ3 0 H locs ls hP hD hS (lv_sub hl [0, 1, 2] rfl)
  · skip
    have fc4 : ¬ (ra1.toInt = 0) := fun h9 => c4 (Int32.toInt_inj.mp h9)
    refine lv_aload_n hx hb dX7_due_8 rfl (lv_at hl 0 rfl) ?_
    refine lv_iload_n hx hb dX7_due_9 rfl (lv_at hl 1 rfl) ?_
    refine lv_iconst (v := 5) hx hb dX7_due_10 (by decide) ?_
    have hPc := hP.sub (ws' := [(h0, .inr (7, [.ref h3, .ref r0, .int v0, .int v1])), (h3, .inl (g1, 58, .inl f5))]) [0, 3] rfl
    have hDc := hD.sub (ws' := [(h0, .inr (7, [.ref h3, .ref r0, .int v0, .int v1])), (h3, .inl (g1, 58, .inl f5))]) [0, 3] (by decide) rfl
    have hKc := hK.sub (tys' := [(g1, .int)]) [1] rfl
    have hFc := va_free (wc := [(h0, .inr (7, [.ref h3, .ref r0, .int v0, .int v1])), (h3, .inl (g1, 58, .inl f5))]) hD hS hA [0, 3] rfl
    refine va_calli (va_runV (As := [.int v6, .int 5]) (rest := []) ⟨hx, hb, hml, hown, hts⟩ (k_X7_of l dC dI h0 h3 r0 v0 v1 g1 f5 v6 5  H.size) (cwV 2 hts g_X7_due_1 rfl rfl rfl (by decide +kernel) ⟨Nat.le_of_ble_eq_true rfl, Nat.le_of_ble_eq_true rfl⟩) ⟨fun a U g mk q => by obtain ⟨q0, q1, qP, qK, qD⟩ := q; exact ⟨q0, q1, qP, va_K.moved (u := U) (U := U.calling g mk a) (Vm.Alike.refl U.vm) qK, qD⟩, va_recv hKc hPc (ci := 7) (q0 := 0) rfl rfl, fun U hU hW => ⟨rfl, by rw [hU], by rw [hU]; exact hPc, va_K.moved hW.alike hKc, hDc.weaken (fun _ _ _ _ => trivial)⟩⟩ rfl rfl hl.1 rfl (lv_room (Nat.le_of_ble_eq_true rfl)) dX7_due_11 ⟨Nat.le_of_ble_eq_true rfl, Nat.le_of_ble_eq_true rfl⟩) hS (fun q _ h => hFc q h) hFc (fun ra5 u t H1 locs ht hvm hwra5 hB hz1 hk1 hS => ?_)
    obtain ⟨hP1, hK1, hD1⟩ := hB
    rw [ht] at hP1
    obtain ⟨hP, hD⟩ := va_join (wr := [(h1, .inr (5, [.ref h2, .ref r1, .int v2, .int v3])), (h2, .inl (g0, 4, .inl f4))]) (w1 := [(h0, .inr (7, [.ref h3, .ref r0, .int v0, .int v1])), (h3, .inl (g1, 58, .inl f5))]) hP hD [0, 3] [1, 2] rfl rfl (by decide) (by decide) hk1 hFc hP1 hD1
    generalize H1 = H at hP hS ⊢
    have hP := hP.sub (ws' := [(h0, .inr (7, [.ref h3, .ref r0, .int v0, .int v1])), (h1, .inr (5, [.ref h2, .ref r1, .int v2, .int v3])), (h2, .inl (g0, 4, .inl f4)), (h3, .inl (g1, 58, .inl f5))]) [2, 0, 1, 3] rfl
    have hD := hD.sub (ws' := [(h0, .inr (7, [.ref h3, .ref r0, .int v0, .int v1])), (h1, .inr (5, [.ref h2, .ref r1, .int v2, .int v3])), (h2, .inl (g0, 4, .inl f4)), (h3, .inl (g1, 58, .inl f5))]) [2, 0, 1, 3] (by decide) rfl
    have hP : va_P (dC, dI) vwCl [(h0, .inr (7, [.ref h3, .ref r0, .int v0, .int v1])), (h1, .inr (5, [.ref h2, .ref r1, .int v2, .int v3])), (h2, .inl (g0, 4, .inl f4)), (h3, .inl (g1, 58, .inl f5))] H := hP
    have hD : va_D A [(h0, .inr (7, [.ref h3, .ref r0, .int v0, .int v1])), (h1, .inr (5, [.ref h2, .ref r1, .int v2, .int v3])), (h2, .inl (g0, 4, .inl f4)), (h3, .inl (g1, 58, .inl f5))] := hD
    refine lv_aload_n hx hb dX7_due_14 rfl (lv_at hl 2 rfl) ?_
    refine lv_iconst (v := 2) hx hb dX7_due_15 (by decide) ?_
    have hPc := hP.sub (ws' := [(h1, .inr (5, [.ref h2, .ref r1, .int v2, .int v3])), (h2, .inl (g0, 4, .inl f4))]) [1, 2] rfl
    have hDc := hD.sub (ws' := [(h1, .inr (5, [.ref h2, .ref r1, .int v2, .int v3])), (h2, .inl (g0, 4, .inl f4))]) [1, 2] (by decide) rfl
    have hKc := hK.sub (tys' := [(g0, .int)]) [0] rfl
    have hFc := va_free (wc := [(h1, .inr (5, [.ref h2, .ref r1, .int v2, .int v3])), (h2, .inl (g0, 4, .inl f4))]) hD hS hA [1, 2] rfl
    refine va_calli (va_runV (As := [.int 2]) (rest := [.int ra5]) ⟨hx, hb, hml, hown, hts⟩ (k_X5_ruleOf l dC dI h1 h2 r1 v2 v3 g0 f4 2 ⟨by first | omega | decide, by first | omega | decide⟩ H.size) (cwV 1 hts g_X7_due_2 rfl rfl rfl (by decide +kernel) ⟨Nat.le_of_ble_eq_true rfl, Nat.le_of_ble_eq_true rfl⟩) ⟨fun a U g mk q => by obtain ⟨q0, q1, qP, qK, qD⟩ := q; exact ⟨q0, q1, qP, va_K.moved (u := U) (U := U.calling g mk a) (Vm.Alike.refl U.vm) qK, qD⟩, va_recv hKc hPc (ci := 5) (q0 := 0) rfl rfl, fun U hU hW => ⟨rfl, by rw [hU], by rw [hU]; exact hPc, va_K.moved hW.alike hKc, hDc.weaken (fun _ _ _ _ => trivial)⟩⟩ rfl rfl hl.1 rfl (lv_room (Nat.le_of_ble_eq_true rfl)) dX7_due_16 ⟨Nat.le_of_ble_eq_true rfl, Nat.le_of_ble_eq_true rfl⟩) hS (fun q _ h => hFc q h) hFc (fun ra6 u t H1 locs ht hvm hwra6 hB hz1 hk1 hS => ?_)
    obtain ⟨hP1, hK1, hD1⟩ := hB
    rw [ht] at hP1
    obtain ⟨hP, hD⟩ := va_join (wr := [(h0, .inr (7, [.ref h3, .ref r0, .int v0, .int v1])), (h3, .inl (g1, 58, .inl f5))]) (w1 := [(h1, .inr (5, [.ref h2, .ref r1, .int v2, .int v3])), (h2, .inl (g0, 4, .inl f4))]) hP hD [1, 2] [0, 3] rfl rfl (by decide) (by decide) hk1 hFc hP1 hD1
    generalize H1 = H at hP hS ⊢
    have hP := hP.sub (ws' := [(h0, .inr (7, [.ref h3, .ref r0, .int v0, .int v1])), (h1, .inr (5, [.ref h2, .ref r1, .int v2, .int v3])), (h2, .inl (g0, 4, .inl f4)), (h3, .inl (g1, 58, .inl f5))]) [0, 2, 3, 1] rfl
    have hD := hD.sub (ws' := [(h0, .inr (7, [.ref h3, .ref r0, .int v0, .int v1])), (h1, .inr (5, [.ref h2, .ref r1, .int v2, .int v3])), (h2, .inl (g0, 4, .inl f4)), (h3, .inl (g1, 58, .inl f5))]) [0, 2, 3, 1] (by decide) rfl
    have hP : va_P (dC, dI) vwCl [(h0, .inr (7, [.ref h3, .ref r0, .int v0, .int v1])), (h1, .inr (5, [.ref h2, .ref r1, .int v2, .int v3])), (h2, .inl (g0, 4, .inl f4)), (h3, .inl (g1, 58, .inl f5))] H := hP
    have hD : va_D A [(h0, .inr (7, [.ref h3, .ref r0, .int v0, .int v1])), (h1, .inr (5, [.ref h2, .ref r1, .int v2, .int v3])), (h2, .inl (g0, 4, .inl f4)), (h3, .inl (g1, 58, .inl f5))] := hD
    refine lv_imul hx hb dX7_due_19 ?_
    refine lv_topi (fun t7 et7 => ?_)
    refine lv_goto (tgt := 24) hx hb dX7_due_20 (by decide) ?_
    exact hJ3 t7 H locs ls hP hD hS (lv_sub hl [0, 1, 2] rfl)
def q_X7_handOut : List Cond := .code yX7_handOut cX7_handOut 4 (some .int) :: (([.code yX7_due cX7_due 3 (some .int), .code yX7_has cX7_has 2 (some .boolean), .fieldLink RX7 11 "LeftArguments$Room" "cells" "[I", .initialized RX7, .instanceMethod yX7_has, .selects RX7 yX7_has yX7_has, .methodLink RX7 70 yX7_has, .code yX7_of cX7_of 3 (some .int), .instanceMethod yX7_of, .selects RX7 yX7_of yX7_of, .methodLink RX7 74 yX7_of, .code yX5_ruleOf cX5_ruleOf 2 (some .int), .fieldLink RX5 11 "LeftArguments$Office" "rules" "[I", .initialized RX5, .instanceMethod yX5_ruleOf, .selects RX5 yX5_ruleOf yX5_ruleOf, .methodLink RX7 30 yX5_ruleOf, .instanceMethod yX7_due, .selects RX7 yX7_due yX7_due, .methodLink RX7 80 yX7_due, .code yX7_gain cX7_gain 2 none, .methodLink RX7 62 Lib.Math.min.name, .static Lib.Math.min.name, .initialized "java/lang/Math", .code Lib.Math.min.name Lib.Math.min.code 2 (some .int), .instanceMethod yX7_gain, .selects RX7 yX7_gain yX7_gain, .methodLink RX7 84 yX7_gain, .code yX7_empty cX7_empty 2 none, .code yX7_set cX7_set 4 none, .instanceMethod yX7_set, .selects RX7 yX7_set yX7_set, .methodLink RX7 58 yX7_set, .instanceMethod yX7_empty, .selects RX7 yX7_empty yX7_empty, .methodLink RX7 88 yX7_empty] : List Cond) ++ wsX70 ++ wsX50)
set_option maxRecDepth 20000 in
theorem g_X7_handOut_0 : GoodIn q_X7_handOut (wsV RX7 80 RX7 yX7_due q_X7_due) := goodIn_app (goodIn_r _ [20, 18, 19, 4] (by decide +kernel) (by decide +kernel)) (goodIn_ca (goodIn_ca (goodIn_r (.code yX7_due cX7_due 3 (some .int) :: [.code yX7_has cX7_has 2 (some .boolean), .fieldLink RX7 11 "LeftArguments$Room" "cells" "[I", .initialized RX7, .instanceMethod yX7_has, .selects RX7 yX7_has yX7_has, .methodLink RX7 70 yX7_has, .code yX7_of cX7_of 3 (some .int), .instanceMethod yX7_of, .selects RX7 yX7_of yX7_of, .methodLink RX7 74 yX7_of, .code yX5_ruleOf cX5_ruleOf 2 (some .int), .fieldLink RX5 11 "LeftArguments$Office" "rules" "[I", .initialized RX5, .instanceMethod yX5_ruleOf, .selects RX5 yX5_ruleOf yX5_ruleOf, .methodLink RX7 30 yX5_ruleOf]) [1, 2, 3, 4, 5, 6, 7, 8, 9, 10, 11, 12, 13, 14, 15, 16, 17] (by decide +kernel) (by decide +kernel)) (goodIn_sub (fun _ h => List.mem_cons_of_mem _ (List.mem_append_left _ (List.mem_append_right _ h))) gwX7)) (goodIn_sub (fun _ h => List.mem_cons_of_mem _ (List.mem_append_right _ h)) gwX5))
set_option maxRecDepth 20000 in
theorem g_X7_handOut_1 : GoodIn q_X7_handOut (wsV RX7 84 RX7 yX7_gain q_X7_gain) := goodIn_app (goodIn_r _ [28, 26, 27, 4] (by decide +kernel) (by decide +kernel)) (goodIn_ca (goodIn_r (.code yX7_gain cX7_gain 2 none :: [.fieldLink RX7 11 "LeftArguments$Room" "cells" "[I", .methodLink RX7 62 Lib.Math.min.name, .static Lib.Math.min.name, .initialized "java/lang/Math", .code Lib.Math.min.name Lib.Math.min.code 2 (some .int)]) [21, 3, 22, 23, 24, 25] (by decide +kernel) (by decide +kernel)) (goodIn_sub (fun _ h => List.mem_cons_of_mem _ (List.mem_append_left _ (List.mem_append_right _ h))) gwX7))
set_option maxRecDepth 20000 in
theorem g_X7_handOut_2 : GoodIn q_X7_handOut (wsV RX7 88 RX7 yX7_empty q_X7_empty) := goodIn_app (goodIn_r _ [36, 34, 35, 4] (by decide +kernel) (by decide +kernel)) (goodIn_ca (goodIn_r (.code yX7_empty cX7_empty 2 none :: [.code yX7_set cX7_set 4 none, .fieldLink RX7 11 "LeftArguments$Room" "cells" "[I", .initialized RX7, .instanceMethod yX7_set, .selects RX7 yX7_set yX7_set, .methodLink RX7 58 yX7_set]) [29, 30, 3, 4, 31, 32, 33] (by decide +kernel) (by decide +kernel)) (goodIn_sub (fun _ h => List.mem_cons_of_mem _ (List.mem_append_left _ (List.mem_append_right _ h))) gwX7))
set_option maxHeartbeats 4000000 in
set_option maxRecDepth 100000 in
theorem k_X7_handOut (l : Launch) (dC : Nat → ClassId) (dI : Nat → Nat → Nat) (h0 : Nat) (h1 : Nat) (h2 : Nat) (h3 : Nat) (r0 : Nat) (v0 : Int32) (v1 : Int32) (r1 : Nat) (v2 : Int32) (v3 : Int32) (g0 : ClassId) (f4 : Nat → Int32) (g1 : ClassId) (f5 : Nat → Int32) (v6 : Int32) (i_v3 : 0 ≤ v3.toInt ∧ v3.toInt ≤ 1) (sz : Nat) : Met l yX7_handOut q_X7_handOut ({ frames := 2, cells := 0, slots := 0, locals := 44 }) (va_Pc [.ref h0, .int v6, .ref h1] (fun U => U.heap.size = sz ∧ va_P (dC, dI) vwCl [(h0, .inr (7, [.ref h3, .ref r0, .int v0, .int v1])), (h1, .inr (5, [.ref h2, .ref r1, .int v2, .int v3])), (h2, .inl (g0, 4, .inl f4)), (h3, .inl (g1, 58, .inl f5))] U.heap ∧ va_K (dC, dI) vwCl [(g0, .int), (g1, .int)] U ∧ va_D (fun _ => True) [(h0, .inr (7, [.ref h3, .ref r0, .int v0, .int v1])), (h1, .inr (5, [.ref h2, .ref r1, .int v2, .int v3])), (h2, .inl (g0, 4, .inl f4)), (h3, .inl (g1, 58, .inl f5))])) (va_Qi (fun (r : Int32) (_ : Unit) => True) (fun (_ : Unit) (t : State) => ∃ (o_h3 : Nat → Int32), va_P (dC, dI) vwCl [(h0, .inr (7, [.ref h3, .ref r0, .int v0, .int v1])), (h1, .inr (5, [.ref h2, .ref r1, .int v2, .int v3])), (h2, .inl (g0, 4, .inl f4)), (h3, .inl (g1, 58, .inl o_h3))] t.heap ∧ va_K (dC, dI) vwCl [] t ∧ va_D (va_A [(h0, .inr (7, [.ref h3, .ref r0, .int v0, .int v1])), (h1, .inr (5, [.ref h2, .ref r1, .int v2, .int v3])), (h2, .inl (g0, 4, .inl f4)), (h3, .inl (g1, 58, .inl f5))] sz) [(h0, .inr (7, [.ref h3, .ref r0, .int v0, .int v1])), (h1, .inr (5, [.ref h2, .ref r1, .int v2, .int v3])), (h2, .inl (g0, 4, .inl f4)), (h3, .inl (g1, 58, .inl o_h3))]) (va_A [(h0, .inr (7, [.ref h3, .ref r0, .int v0, .int v1])), (h1, .inr (5, [.ref h2, .ref r1, .int v2, .int v3])), (h2, .inl (g0, 4, .inl f4)), (h3, .inl (g1, 58, .inl f5))] sz)) 0 0 (va_A [(h0, .inr (7, [.ref h3, .ref r0, .int v0, .int v1])), (h1, .inr (5, [.ref h2, .ref r1, .int v2, .int v3])), (h2, .inl (g0, 4, .inl f4)), (h3, .inl (g1, 58, .inl f5))] sz) := by
  refine Met.ofW (cc := cX7_handOut) (maxL := 4) (ret := (some .int)) (by decide) rfl ?_
  intro p e s m args below meth c s₁ B hml hv
  obtain ⟨i_v3a, i_v3b⟩ := i_v3
  obtain ⟨rfl, hsz, hP, hK, hD0⟩ := hv
  have hx := B.exec
  have hb := B.bytes
  have hr := B.returns
  have hts := atoms_spec (ws := q_X7_handOut) B.pre
  have hown : s.vm.findClass RX7 = some m.cls := findClass_of_methodNamed B.named
  have hlocks := B.notSynchronized
  subst hsz
  have hD := hD0.self (sz := s.heap.size)
  generalize hAe : va_A [(h0, .inr (7, [.ref h3, .ref r0, .int v0, .int v1])), (h1, .inr (5, [.ref h2, .ref r1, .int v2, .int v3])), (h2, .inl (g0, 4, .inl f4)), (h3, .inl (g1, 58, .inl f5))] s.heap.size = A at hD ⊢
  have hA : ∀ q : Nat, s.heap.size ≤ q → A q := fun q h => by rw [← hAe]; exact Or.inr h
  have hS : va_S A s.heap s.heap [] := va_S.rf
  generalize hQ : (MQ below _ _ s 0 0 A) = Q
  have hl := lv_entry ([.ref h0, .int v6, .ref h1]) (n := 4) (Nat.le_of_ble_eq_true rfl)
  rw [lg_entry_eq]
  generalize (lg_sl ([.ref h0, .int v6, .ref h1]) ++ List.replicate (4 - (lg_sl ([.ref h0, .int v6, .ref h1])).length) Slot.unset).toArray = ls at hl ⊢
  have hl : lv_has ls 4 [(0, .ref h0), (1, .int v6), (2, .ref h1)] := hl
  obtain ⟨H, hH⟩ : ∃ H : Heap, H = s.heap := ⟨_, rfl⟩
  obtain ⟨locs, hlocs⟩ : ∃ y : List Loc, y = [] := ⟨_, rfl⟩
  have hS : va_S A s.heap H locs := by rw [hH, hlocs]; exact va_S.rf
  have hP : va_P (dC, dI) vwCl [(h0, .inr (7, [.ref h3, .ref r0, .int v0, .int v1])), (h1, .inr (5, [.ref h2, .ref r1, .int v2, .int v3])), (h2, .inl (g0, 4, .inl f4)), (h3, .inl (g1, 58, .inl f5))] H := by rw [hH]; exact hP
  rw [← hH, ← hlocs]
  refine lv_aload_n hx hb dX7_handOut_0 rfl (lv_at hl 0 rfl) ?_
  refine lv_iload_n hx hb dX7_handOut_1 rfl (lv_at hl 1 rfl) ?_
  refine lv_aload_n hx hb dX7_handOut_2 rfl (lv_at hl 2 rfl) ?_
  have hPc := hP.sub (ws' := [(h0, .inr (7, [.ref h3, .ref r0, .int v0, .int v1])), (h1, .inr (5, [.ref h2, .ref r1, .int v2, .int v3])), (h2, .inl (g0, 4, .inl f4)), (h3, .inl (g1, 58, .inl f5))]) [0, 1, 2, 3] rfl
  have hDc := hD.sub (ws' := [(h0, .inr (7, [.ref h3, .ref r0, .int v0, .int v1])), (h1, .inr (5, [.ref h2, .ref r1, .int v2, .int v3])), (h2, .inl (g0, 4, .inl f4)), (h3, .inl (g1, 58, .inl f5))]) [0, 1, 2, 3] (by decide) rfl
  have hKc := hK.sub (tys' := [(g0, .int), (g1, .int)]) [0, 1] rfl
  have hFc := va_free (wc := [(h0, .inr (7, [.ref h3, .ref r0, .int v0, .int v1])), (h1, .inr (5, [.ref h2, .ref r1, .int v2, .int v3])), (h2, .inl (g0, 4, .inl f4)), (h3, .inl (g1, 58, .inl f5))]) hD hS hA [0, 1, 2, 3] rfl
  refine va_calli (va_runV (As := [.int v6, .ref h1]) (rest := []) ⟨hx, hb, hml, hown, hts⟩ (k_X7_due l dC dI h0 h1 h2 h3 r0 v0 v1 r1 v2 v3 g0 f4 g1 f5 v6 ⟨by first | omega | decide, by first | omega | decide⟩ H.size) (cwV 2 hts g_X7_handOut_0 rfl rfl rfl (by decide +kernel) ⟨Nat.le_of_ble_eq_true rfl, Nat.le_of_ble_eq_true rfl⟩) ⟨fun a U g mk q => by obtain ⟨q0, q1, qP, qK, qD⟩ := q; exact ⟨q0, q1, qP, va_K.moved (u := U) (U := U.calling g mk a) (Vm.Alike.refl U.vm) qK, qD⟩, va_recv hKc hPc (ci := 7) (q0 := 0) rfl rfl, fun U hU hW => ⟨rfl, by rw [hU], by rw [hU]; exact hPc, va_K.moved hW.alike hKc, hDc.weaken (fun _ _ _ _ => trivial)⟩⟩ rfl rfl hl.1 rfl (lv_room (Nat.le_of_ble_eq_true rfl)) dX7_handOut_3 ⟨Nat.le_of_ble_eq_true rfl, Nat.le_of_ble_eq_true rfl⟩) hS (fun q _ h => hFc q h) hFc (fun ra1 u t H1 locs ht hvm hwra1 hB hz1 hk1 hS => ?_)
  obtain ⟨hP1, hK1, hD1⟩ := hB
  rw [ht] at hP1
  obtain ⟨hP, hD⟩ := va_join (wr := []) (w1 := [(h0, .inr (7, [.ref h3, .ref r0, .int v0, .int v1])), (h1, .inr (5, [.ref h2, .ref r1, .int v2, .int v3])), (h2, .inl (g0, 4, .inl f4)), (h3, .inl (g1, 58, .inl f5))]) hP hD [0, 1, 2, 3] [] rfl rfl (by decide) (by decide) hk1 hFc hP1 hD1
  generalize H1 = H at hP hS ⊢
  have hP : va_P (dC, dI) vwCl [(h0, .inr (7, [.ref h3, .ref r0, .int v0, .int v1])), (h1, .inr (5, [.ref h2, .ref r1, .int v2, .int v3])), (h2, .inl (g0, 4, .inl f4)), (h3, .inl (g1, 58, .inl f5))] H := hP
  have hD : va_D A [(h0, .inr (7, [.ref h3, .ref r0, .int v0, .int v1])), (h1, .inr (5, [.ref h2, .ref r1, .int v2, .int v3])), (h2, .inl (g0, 4, .inl f4)), (h3, .inl (g1, 58, .inl f5))] := hD
  refine lv_istore_n (lv' := [(3, .int ra1), (0, .ref h0), (1, .int v6), (2, .ref h1)]) hx hb dX7_handOut_6 rfl hl (by decide) rfl (fun ls hl => ?_)
  refine lv_aload_n hx hb dX7_handOut_7 rfl (lv_at hl 1 rfl) ?_
  refine lv_iload_n hx hb dX7_handOut_8 rfl (lv_at hl 0 rfl) ?_
  have hPc := hP.sub (ws' := [(h0, .inr (7, [.ref h3, .ref r0, .int v0, .int v1])), (h3, .inl (g1, 58, .inl f5))]) [0, 3] rfl
  have hDc := hD.sub (ws' := [(h0, .inr (7, [.ref h3, .ref r0, .int v0, .int v1])), (h3, .inl (g1, 58, .inl f5))]) [0, 3] (by decide) rfl
  have hKc := hK.sub (tys' := [(g1, .int)]) [1] rfl
  have hFc := va_free (wc := [(h0, .inr (7, [.ref h3, .ref r0, .int v0, .int v1])), (h3, .inl (g1, 58, .inl f5))]) hD hS hA [0, 3] rfl
  refine va_callv (va_runV (As := [.int ra1]) (rest := []) ⟨hx, hb, hml, hown, hts⟩ (k_X7_gain l dC dI h0 h3 r0 v0 v1 g1 f5 ra1  H.size) (cwV 1 hts g_X7_handOut_1 rfl rfl rfl (by decide +kernel) ⟨Nat.le_of_ble_eq_true rfl, Nat.le_of_ble_eq_true rfl⟩) ⟨fun a U g mk q => by obtain ⟨q0, q1, qP, qK, qD⟩ := q; exact ⟨q0, q1, qP, va_K.moved (u := U) (U := U.calling g mk a) (Vm.Alike.refl U.vm) qK, qD⟩, va_recv hKc hPc (ci := 7) (q0 := 0) rfl rfl, fun U hU hW => ⟨rfl, by rw [hU], by rw [hU]; exact hPc, va_K.moved hW.alike hKc, hDc.weaken (fun _ _ _ _ => trivial)⟩⟩ rfl rfl hl.1 rfl (lv_room (Nat.le_of_ble_eq_true rfl)) dX7_handOut_9 ⟨Nat.le_of_ble_eq_true rfl, Nat.le_of_ble_eq_true rfl⟩) hS (fun q _ h => hFc q h) hFc (fun u t H1 locs ht hvm hwra2 hB hz1 hk1 hS => ?_)
  obtain ⟨fn3, hP1, hK1, hD1⟩ := hB
  rw [ht] at hP1
  obtain ⟨hP, hD⟩ := va_join (wr := [(h1, .inr (5, [.ref h2, .ref r1, .int v2, .int v3])), (h2, .inl (g0, 4, .inl f4))]) (w1 := [(h0, .inr (7, [.ref h3, .ref r0, .int v0, .int v1])), (h3, .inl (g1, 58, .inl fn3))]) hP hD [0, 3] [1, 2] rfl rfl (by decide) (by decide) hk1 hFc hP1 hD1
  generalize H1 = H at hP hS ⊢
  have hP := hP.sub (ws' := [(h0, .inr (7, [.ref h3, .ref r0, .int v0, .int v1])), (h1, .inr (5, [.ref h2, .ref r1, .int v2, .int v3])), (h2, .inl (g0, 4, .inl f4)), (h3, .inl (g1, 58, .inl fn3))]) [2, 0, 1, 3] rfl
  have hD := hD.sub (ws' := [(h0, .inr (7, [.ref h3, .ref r0, .int v0, .int v1])), (h1, .inr (5, [.ref h2, .ref r1, .int v2, .int v3])), (h2, .inl (g0, 4, .inl f4)), (h3, .inl (g1, 58, .inl fn3))]) [2, 0, 1, 3] (by decide) rfl
  have hP : va_P (dC, dI) vwCl [(h0, .inr (7, [.ref h3, .ref r0, .int v0, .int v1])), (h1, .inr (5, [.ref h2, .ref r1, .int v2, .int v3])), (h2, .inl (g0, 4, .inl f4)), (h3, .inl (g1, 58, .inl fn3))] H := hP
  have hD : va_D A [(h0, .inr (7, [.ref h3, .ref r0, .int v0, .int v1])), (h1, .inr (5, [.ref h2, .ref r1, .int v2, .int v3])), (h2, .inl (g0, 4, .inl f4)), (h3, .inl (g1, 58, .inl fn3))] := hD
  refine lv_aload_n hx hb dX7_handOut_12 rfl (lv_at hl 1 rfl) ?_
  refine lv_iload_n hx hb dX7_handOut_13 rfl (lv_at hl 2 rfl) ?_
  have hPc := hP.sub (ws' := [(h0, .inr (7, [.ref h3, .ref r0, .int v0, .int v1])), (h3, .inl (g1, 58, .inl fn3))]) [0, 3] rfl
  have hDc := hD.sub (ws' := [(h0, .inr (7, [.ref h3, .ref r0, .int v0, .int v1])), (h3, .inl (g1, 58, .inl fn3))]) [0, 3] (by decide) rfl
  have hKc := hK.sub (tys' := [(g1, .int)]) [1] rfl
  have hFc := va_free (wc := [(h0, .inr (7, [.ref h3, .ref r0, .int v0, .int v1])), (h3, .inl (g1, 58, .inl fn3))]) hD hS hA [0, 3] rfl
  refine va_callv (va_runV (As := [.int v6]) (rest := []) ⟨hx, hb, hml, hown, hts⟩ (k_X7_empty l dC dI h0 h3 r0 v0 v1 g1 fn3 v6  H.size) (cwV 1 hts g_X7_handOut_2 rfl rfl rfl (by decide +kernel) ⟨Nat.le_of_ble_eq_true rfl, Nat.le_of_ble_eq_true rfl⟩) ⟨fun a U g mk q => by obtain ⟨q0, q1, qP, qK, qD⟩ := q; exact ⟨q0, q1, qP, va_K.moved (u := U) (U := U.calling g mk a) (Vm.Alike.refl U.vm) qK, qD⟩, va_recv hKc hPc (ci := 7) (q0 := 0) rfl rfl, fun U hU hW => ⟨rfl, by rw [hU], by rw [hU]; exact hPc, va_K.moved hW.alike hKc, hDc.weaken (fun _ _ _ _ => trivial)⟩⟩ rfl rfl hl.1 rfl (lv_room (Nat.le_of_ble_eq_true rfl)) dX7_handOut_14 ⟨Nat.le_of_ble_eq_true rfl, Nat.le_of_ble_eq_true rfl⟩) hS (fun q _ h => hFc q h) hFc (fun u t H1 locs ht hvm hwra4 hB hz1 hk1 hS => ?_)
  obtain ⟨fn5, hP1, hK1, hD1⟩ := hB
  rw [ht] at hP1
  obtain ⟨hP, hD⟩ := va_join (wr := [(h1, .inr (5, [.ref h2, .ref r1, .int v2, .int v3])), (h2, .inl (g0, 4, .inl f4))]) (w1 := [(h0, .inr (7, [.ref h3, .ref r0, .int v0, .int v1])), (h3, .inl (g1, 58, .inl fn5))]) hP hD [0, 3] [1, 2] rfl rfl (by decide) (by decide) hk1 hFc hP1 hD1
  generalize H1 = H at hP hS ⊢
  have hP := hP.sub (ws' := [(h0, .inr (7, [.ref h3, .ref r0, .int v0, .int v1])), (h1, .inr (5, [.ref h2, .ref r1, .int v2, .int v3])), (h2, .inl (g0, 4, .inl f4)), (h3, .inl (g1, 58, .inl fn5))]) [2, 0, 1, 3] rfl
  have hD := hD.sub (ws' := [(h0, .inr (7, [.ref h3, .ref r0, .int v0, .int v1])), (h1, .inr (5, [.ref h2, .ref r1, .int v2, .int v3])), (h2, .inl (g0, 4, .inl f4)), (h3, .inl (g1, 58, .inl fn5))]) [2, 0, 1, 3] (by decide) rfl
  have hP : va_P (dC, dI) vwCl [(h0, .inr (7, [.ref h3, .ref r0, .int v0, .int v1])), (h1, .inr (5, [.ref h2, .ref r1, .int v2, .int v3])), (h2, .inl (g0, 4, .inl f4)), (h3, .inl (g1, 58, .inl fn5))] H := hP
  have hD : va_D A [(h0, .inr (7, [.ref h3, .ref r0, .int v0, .int v1])), (h1, .inr (5, [.ref h2, .ref r1, .int v2, .int v3])), (h2, .inl (g0, 4, .inl f4)), (h3, .inl (g1, 58, .inl fn5))] := hD
  refine lv_iload_n hx hb dX7_handOut_17 rfl (lv_at hl 0 rfl) ?_
  subst hQ
  have hP9 := hP.sub (ws' := [(h0, .inr (7, [.ref h3, .ref r0, .int v0, .int v1])), (h1, .inr (5, [.ref h2, .ref r1, .int v2, .int v3])), (h2, .inl (g0, 4, .inl f4)), (h3, .inl (g1, 58, .inl fn5))]) [0, 1, 2, 3] rfl
  have hD9 := hD.sub (ws' := [(h0, .inr (7, [.ref h3, .ref r0, .int v0, .int v1])), (h1, .inr (5, [.ref h2, .ref r1, .int v2, .int v3])), (h2, .inl (g0, 4, .inl f4)), (h3, .inl (g1, 58, .inl fn5))]) [0, 1, 2, 3] (by decide) rfl
  have hK9 := hK.sub (tys' := []) [] rfl
  exact W.iret (v := ra1) hx hb hr (fun t ht hW => ⟨⟨ra1, (), rfl, trivial, fn5, by rw [ht]; exact hP9, va_K.moved hW.alike hK9, hD9⟩, hS.F ht⟩) hS.2.2 dX7_handOut_18
def q_X7_loadOn : List Cond := .code yX7_loadOn cX7_loadOn 4 (some .int) :: (([.fieldLink RX7 11 "LeftArguments$Room" "cells" "[I"] : List Cond) ++ wsX70)
set_option maxHeartbeats 4000000 in
set_option maxRecDepth 100000 in
theorem k_X7_loadOn (l : Launch) (dC : Nat → ClassId) (dI : Nat → Nat → Nat) (h0 : Nat) (h1 : Nat) (r0 : Nat) (v0 : Int32) (v1 : Int32) (g0 : ClassId) (f2 : Nat → Int32) (v3 : Int32) (sz : Nat) : Met l yX7_loadOn q_X7_loadOn ({ frames := 0, cells := 0, slots := 0, locals := 0 }) (va_Pc [.ref h0, .int v3] (fun U => U.heap.size = sz ∧ va_P (dC, dI) vwCl [(h0, .inr (7, [.ref h1, .ref r0, .int v0, .int v1])), (h1, .inl (g0, 58, .inl f2))] U.heap ∧ va_K (dC, dI) vwCl [(g0, .int)] U ∧ va_D (fun _ => True) [(h0, .inr (7, [.ref h1, .ref r0, .int v0, .int v1])), (h1, .inl (g0, 58, .inl f2))])) (va_Qi (fun (r : Int32) (_ : Unit) => True) (fun (_ : Unit) (t : State) => va_P (dC, dI) vwCl [(h0, .inr (7, [.ref h1, .ref r0, .int v0, .int v1])), (h1, .inl (g0, 58, .inl f2))] t.heap ∧ va_K (dC, dI) vwCl [] t ∧ va_D (va_A [(h0, .inr (7, [.ref h1, .ref r0, .int v0, .int v1])), (h1, .inl (g0, 58, .inl f2))] sz) [(h0, .inr (7, [.ref h1, .ref r0, .int v0, .int v1])), (h1, .inl (g0, 58, .inl f2))]) (va_A [(h0, .inr (7, [.ref h1, .ref r0, .int v0, .int v1])), (h1, .inl (g0, 58, .inl f2))] sz)) 0 0 (va_A [(h0, .inr (7, [.ref h1, .ref r0, .int v0, .int v1])), (h1, .inl (g0, 58, .inl f2))] sz) := by
  refine Met.ofW (cc := cX7_loadOn) (maxL := 4) (ret := (some .int)) (by decide) rfl ?_
  intro p e s m args below meth c s₁ B hml hv
  obtain ⟨rfl, hsz, hP, hK, hD0⟩ := hv
  have hx := B.exec
  have hb := B.bytes
  have hr := B.returns
  have hts := atoms_spec (ws := q_X7_loadOn) B.pre
  have hown : s.vm.findClass RX7 = some m.cls := findClass_of_methodNamed B.named
  have hlocks := B.notSynchronized
  subst hsz
  have hD := hD0.self (sz := s.heap.size)
  generalize hAe : va_A [(h0, .inr (7, [.ref h1, .ref r0, .int v0, .int v1])), (h1, .inl (g0, 58, .inl f2))] s.heap.size = A at hD ⊢
  have hA : ∀ q : Nat, s.heap.size ≤ q → A q := fun q h => by rw [← hAe]; exact Or.inr h
  have hS : va_S A s.heap s.heap [] := va_S.rf
  generalize hQ : (MQ below _ _ s 0 0 A) = Q
  have hl := lv_entry ([.ref h0, .int v3]) (n := 4) (Nat.le_of_ble_eq_true rfl)
  rw [lg_entry_eq]
  generalize (lg_sl ([.ref h0, .int v3]) ++ List.replicate (4 - (lg_sl ([.ref h0, .int v3])).length) Slot.unset).toArray = ls at hl ⊢
  have hl : lv_has ls 4 [(0, .ref h0), (1, .int v3)] := hl
  obtain ⟨H, hH⟩ : ∃ H : Heap, H = s.heap := ⟨_, rfl⟩
  obtain ⟨locs, hlocs⟩ : ∃ y : List Loc, y = [] := ⟨_, rfl⟩
  have hS : va_S A s.heap H locs := by rw [hH, hlocs]; exact va_S.rf
  have hP : va_P (dC, dI) vwCl [(h0, .inr (7, [.ref h1, .ref r0, .int v0, .int v1])), (h1, .inl (g0, 58, .inl f2))] H := by rw [hH]; exact hP
  rw [← hH, ← hlocs]
  refine lv_iconst (v := 0) hx hb dX7_loadOn_0 (by decide) ?_
  refine lv_istore_n (lv' := [(2, .int 0), (0, .ref h0), (1, .int v3)]) hx hb dX7_loadOn_1 rfl hl (by decide) rfl (fun ls hl => ?_)
  refine lv_iconst (v := 0) hx hb dX7_loadOn_2 (by decide) ?_
  refine lv_istore_n (lv' := [(3, .int 0), (2, .int 0), (0, .ref h0), (1, .int v3)]) hx hb dX7_loadOn_3 rfl hl (by decide) rfl (fun ls hl => ?_)
  have hL11 : ∀ (n9 : Nat), ∀ (x7 : Int32) (x8 : Int32) (H : Heap) (locs : List Loc) (ls : Array Slot), 0 ≤ x7.toInt → x7.toInt ≤ 8 → (8 - x7.toInt).toNat < n9 → va_P (dC, dI) vwCl [(h0, .inr (7, [.ref h1, .ref r0, .int v0, .int v1])), (h1, .inl (g0, 58, .inl f2))] H → va_D A [(h0, .inr (7, [.ref h1, .ref r0, .int v0, .int v1])), (h1, .inl (g0, 58, .inl f2))] → va_S A s.heap H locs → lv_has ls 4 [(3, .int x7), (2, .int x8), (0, .ref h0), (1, .int v3)] → W p l e ({ frames := 0, cells := 0, slots := 0, locals := 0 }) s m ([.ref h0, .int v3] : List Value).toArray below meth c H locs 0 0 Q (F0 m 4 ls []) := by
    intro n9
    induction n9 with
    | zero => intro x7 x8 H locs ls qa_x7 qb_x7 hm9 hP hD hS hl; exact absurd hm9 (Nat.not_lt_zero _)
    | succ n9 ih =>
      intro x7 x8 H locs ls qa_x7 qb_x7 hm9 hP hD hS hl
      refine lv_iload_n hx hb dX7_loadOn_4 rfl (lv_at hl 0 rfl) ?_
      refine lv_bipush (v := 8) hx hb dX7_loadOn_5 (by decide) ?_
      refine lv_icmp_ge (tgt := 38) hx hb dX7_loadOn_7 (by decide) (fun c12 => ?_) (fun c12 => ?_)
      · skip
        have fc12 : 8 ≤ x7.toInt := Int32.le_iff_toInt_le.mp c12
        refine lv_iload_n hx hb dX7_loadOn_38 rfl (lv_at hl 1 rfl) ?_
        subst hQ
        have hP9 := hP.sub (ws' := [(h0, .inr (7, [.ref h1, .ref r0, .int v0, .int v1])), (h1, .inl (g0, 58, .inl f2))]) [0, 1] rfl
        have hD9 := hD.sub (ws' := [(h0, .inr (7, [.ref h1, .ref r0, .int v0, .int v1])), (h1, .inl (g0, 58, .inl f2))]) [0, 1] (by decide) rfl
        have hK9 := hK.sub (tys' := []) [] rfl
        exact W.iret (v := x8) hx hb hr (fun t ht hW => ⟨⟨x8, (), rfl, trivial, by rw [ht]; exact hP9, va_K.moved hW.alike hK9, hD9⟩, hS.F ht⟩) hS.2.2 dX7_loadOn_39
      · skip
        have fc12 : ¬ (8 ≤ x7.toInt) := fun h9 => c12 (Int32.le_iff_toInt_le.mpr h9)
        refine lv_aload_n hx hb dX7_loadOn_10 rfl (lv_at hl 2 rfl) ?_
        refine va_get (D := (dC, dI)) (ci := 7) (v := .ref h1) (C := RX7) (T := TX7) (N := 4) hx hb hts (fun _ h => List.mem_cons_of_mem _ (List.mem_append_right _ h)) hown hK hP 0 rfl rfl 0 (by decide) (hts (.fieldLink RX7 11 "LeftArguments$Room" "cells" "[I") (List.mem_cons_of_mem _ (List.mem_append_left _ (List.mem_of_getElem? (i := 0) rfl)))) (fun _ h9 => h9) rfl dX7_loadOn_11 ?_
        refine lv_bipush (v := 24) hx hb dX7_loadOn_14 (by decide) ?_
        refine lv_iload_n hx hb dX7_loadOn_16 rfl (lv_at hl 0 rfl) ?_
        refine lv_iadd hx hb dX7_loadOn_17 ?_
        refine lv_topi (fun t13 et13 => ?_)
        have gt13 : t13.toInt = 24 + x7.toInt := pv_add (a := 24) (b := x7.toInt) et13 (by decide) rfl (by omega) (by omega)
        refine va_iald hx hb hK hP 1 0 rfl rfl (vp_in_iff.mpr ⟨by omega, by omega⟩) dX7_loadOn_18 ?_
        refine lv_topi (fun t14 et14 => ?_)
        refine lv_iload_n hx hb dX7_loadOn_19 rfl (lv_at hl 3 rfl) ?_
        have hJ16 : ∀ (x15 : Int32) (H : Heap) (locs : List Loc) (ls : Array Slot), va_P (dC, dI) vwCl [(h0, .inr (7, [.ref h1, .ref r0, .int v0, .int v1])), (h1, .inl (g0, 58, .inl f2))] H → va_D A [(h0, .inr (7, [.ref h1, .ref r0, .int v0, .int v1])), (h1, .inl (g0, 58, .inl f2))] → va_S A s.heap H locs → lv_has ls 4 [(3, .int x7), (2, .int x15), (0, .ref h0), (1, .int v3)] → W p l e ({ frames := 0, cells := 0, slots := 0, locals := 0 }) s m ([.ref h0, .int v3] : List Value).toArray below meth c H locs 0 0 Q (F0 m 32 ls []) := by
          intro x15 H locs ls hP hD hS hl
          obtain ⟨t17, et17⟩ : ∃ y : Int32, y = x7 + 1 := ⟨_, rfl⟩
          have gt17 : t17.toInt = x7.toInt + (1) := pv_add (a := x7.toInt) (b := (1)) et17 rfl (by decide) (by omega) (by omega)
          refine lv_iinc (v := t17) (lv' := [(3, .int t17), (2, .int x15), (0, .ref h0), (1, .int v3)]) hx hb dX7_loadOn_32 hl (k := 0) rfl (by rw [et17]; rfl) (by decide) rfl (fun ls hl => ?_)
          refine lv_goto (tgt := 4) hx hb dX7_loadOn_35 (by decide) ?_
          exact ih t17 x15 H locs ls (by first | omega | decide) (by first | omega | decide) (by first | omega | (simp only [Int.toNat] at *; omega)) hP hD hS (lv_sub hl [0, 1, 2, 3] rfl)
        refine lv_icmp_ne (tgt := 32) hx hb dX7_loadOn_20 (by decide) (fun c18 => ?_) (fun c18 => ?_)
        · skip
          have fc18 : ¬ (t14.toInt = v3.toInt) := fun h9 => c18 (Int32.toInt_inj.mp h9)
          have r1c18 := Int32.toInt_lt t14
          have r2c18 := Int32.toInt_lt v3
          have r3c18 := Int32.le_toInt t14
          have r4c18 := Int32.le_toInt v3
          exact hJ16 x8 H locs ls hP hD hS (lv_sub hl [0, 1, 2, 3] rfl)
        · skip
          have fc18 : t14.toInt = v3.toInt := congrArg Int32.toInt c18
          have r1c18 := Int32.toInt_lt t14
          have r2c18 := Int32.toInt_lt v3
          have r3c18 := Int32.le_toInt t14
          have r4c18 := Int32.le_toInt v3
          refine lv_iload_n hx hb dX7_loadOn_23 rfl (lv_at hl 1 rfl) ?_
          refine lv_aload_n hx hb dX7_loadOn_24 rfl (lv_at hl 2 rfl) ?_
          refine va_get (D := (dC, dI)) (ci := 7) (v := .ref h1) (C := RX7) (T := TX7) (N := 4) hx hb hts (fun _ h => List.mem_cons_of_mem _ (List.mem_append_right _ h)) hown hK hP 0 rfl rfl 0 (by decide) (hts (.fieldLink RX7 11 "LeftArguments$Room" "cells" "[I") (List.mem_cons_of_mem _ (List.mem_append_left _ (List.mem_of_getElem? (i := 0) rfl)))) (fun _ h9 => h9) rfl dX7_loadOn_25 ?_
          refine lv_iload_n hx hb dX7_loadOn_28 rfl (lv_at hl 0 rfl) ?_
          refine va_iald hx hb hK hP 1 0 rfl rfl (vp_in_iff.mpr ⟨by omega, by omega⟩) dX7_loadOn_29 ?_
          refine lv_topi (fun t19 et19 => ?_)
          refine lv_iadd hx hb dX7_loadOn_30 ?_
          refine lv_topi (fun t20 et20 => ?_)
          refine lv_istore_n (lv' := [(2, .int t20), (3, .int x7), (0, .ref h0), (1, .int v3)]) hx hb dX7_loadOn_31 rfl hl (by decide) rfl (fun ls hl => ?_)
          exact hJ16 t20 H locs ls hP hD hS (lv_sub hl [1, 0, 2, 3] rfl)
  exact hL11 _ 0 0 H locs ls (by first | omega | decide) (by first | omega | decide) (Nat.lt_succ_self _) hP hD hS (lv_sub hl [0, 1, 2, 3] rfl)
def q_X7_takes : List Cond := .code yX7_takes cX7_takes 4 (some .boolean) :: (([.code yX7_loadOn cX7_loadOn 4 (some .int), .fieldLink RX7 11 "LeftArguments$Room" "cells" "[I", .initialized RX7, .instanceMethod yX7_loadOn, .selects RX7 yX7_loadOn yX7_loadOn, .methodLink RX7 67 yX7_loadOn, .code yX5_ruleOf cX5_ruleOf 2 (some .int), .fieldLink RX5 11 "LeftArguments$Office" "rules" "[I", .initialized RX5, .instanceMethod yX5_ruleOf, .selects RX5 yX5_ruleOf yX5_ruleOf, .methodLink RX7 30 yX5_ruleOf] : List Cond) ++ wsX70 ++ wsX50)
set_option maxRecDepth 20000 in
theorem g_X7_takes_0 : GoodIn q_X7_takes (wsV RX7 67 RX7 yX7_loadOn q_X7_loadOn) := goodIn_app (goodIn_r _ [6, 4, 5, 3] (by decide +kernel) (by decide +kernel)) (goodIn_ca (goodIn_r (.code yX7_loadOn cX7_loadOn 4 (some .int) :: [.fieldLink RX7 11 "LeftArguments$Room" "cells" "[I"]) [1, 2] (by decide +kernel) (by decide +kernel)) (goodIn_sub (fun _ h => List.mem_cons_of_mem _ (List.mem_append_left _ (List.mem_append_right _ h))) gwX7))
set_option maxRecDepth 20000 in
theorem g_X7_takes_1 : GoodIn q_X7_takes (wsV RX7 30 RX5 yX5_ruleOf q_X5_ruleOf) := goodIn_app (goodIn_r _ [12, 10, 11, 9] (by decide +kernel) (by decide +kernel)) (goodIn_ca (goodIn_r (.code yX5_ruleOf cX5_ruleOf 2 (some .int) :: [.fieldLink RX5 11 "LeftArguments$Office" "rules" "[I"]) [7, 8] (by decide +kernel) (by decide +kernel)) (goodIn_sub (fun _ h => List.mem_cons_of_mem _ (List.mem_append_right _ h)) gwX5))
set_option maxHeartbeats 4000000 in
set_option maxRecDepth 100000 in
theorem k_X7_takes (l : Launch) (dC : Nat → ClassId) (dI : Nat → Nat → Nat) (h0 : Nat) (h1 : Nat) (h2 : Nat) (h3 : Nat) (r0 : Nat) (v0 : Int32) (v1 : Int32) (r1 : Nat) (v2 : Int32) (v3 : Int32) (g0 : ClassId) (f4 : Nat → Int32) (g1 : ClassId) (f5 : Nat → Int32) (v6 : Int32) (v7 : Int32) (i_v3 : 0 ≤ v3.toInt ∧ v3.toInt ≤ 1) (sz : Nat) : Met l yX7_takes q_X7_takes ({ frames := 1, cells := 0, slots := 0, locals := 23 }) (va_Pc [.ref h0, .ref h1, .int v6, .int v7] (fun U => U.heap.size = sz ∧ va_P (dC, dI) vwCl [(h0, .inr (7, [.ref h3, .ref r0, .int v0, .int v1])), (h1, .inr (5, [.ref h2, .ref r1, .int v2, .int v3])), (h2, .inl (g0, 4, .inl f4)), (h3, .inl (g1, 58, .inl f5))] U.heap ∧ va_K (dC, dI) vwCl [(g0, .int), (g1, .int)] U ∧ va_D (fun _ => True) [(h0, .inr (7, [.ref h3, .ref r0, .int v0, .int v1])), (h1, .inr (5, [.ref h2, .ref r1, .int v2, .int v3])), (h2, .inl (g0, 4, .inl f4)), (h3, .inl (g1, 58, .inl f5))])) (va_Qi (fun (r : Int32) (_ : Unit) => 0 ≤ r.toInt ∧ r.toInt ≤ 1) (fun (_ : Unit) (t : State) => va_P (dC, dI) vwCl [(h0, .inr (7, [.ref h3, .ref r0, .int v0, .int v1])), (h1, .inr (5, [.ref h2, .ref r1, .int v2, .int v3])), (h2, .inl (g0, 4, .inl f4)), (h3, .inl (g1, 58, .inl f5))] t.heap ∧ va_K (dC, dI) vwCl [] t ∧ va_D (va_A [(h0, .inr (7, [.ref h3, .ref r0, .int v0, .int v1])), (h1, .inr (5, [.ref h2, .ref r1, .int v2, .int v3])), (h2, .inl (g0, 4, .inl f4)), (h3, .inl (g1, 58, .inl f5))] sz) [(h0, .inr (7, [.ref h3, .ref r0, .int v0, .int v1])), (h1, .inr (5, [.ref h2, .ref r1, .int v2, .int v3])), (h2, .inl (g0, 4, .inl f4)), (h3, .inl (g1, 58, .inl f5))]) (va_A [(h0, .inr (7, [.ref h3, .ref r0, .int v0, .int v1])), (h1, .inr (5, [.ref h2, .ref r1, .int v2, .int v3])), (h2, .inl (g0, 4, .inl f4)), (h3, .inl (g1, 58, .inl f5))] sz)) 0 0 (va_A [(h0, .inr (7, [.ref h3, .ref r0, .int v0, .int v1])), (h1, .inr (5, [.ref h2, .ref r1, .int v2, .int v3])), (h2, .inl (g0, 4, .inl f4)), (h3, .inl (g1, 58, .inl f5))] sz) := by
  refine Met.ofW (cc := cX7_takes) (maxL := 4) (ret := (some .boolean)) (by decide) rfl ?_
  intro p e s m args below meth c s₁ B hml hv
  obtain ⟨i_v3a, i_v3b⟩ := i_v3
  obtain ⟨rfl, hsz, hP, hK, hD0⟩ := hv
  have hx := B.exec
  have hb := B.bytes
  have hr := B.returns
  have hts := atoms_spec (ws := q_X7_takes) B.pre
  have hown : s.vm.findClass RX7 = some m.cls := findClass_of_methodNamed B.named
  have hlocks := B.notSynchronized
  subst hsz
  have hD := hD0.self (sz := s.heap.size)
  generalize hAe : va_A [(h0, .inr (7, [.ref h3, .ref r0, .int v0, .int v1])), (h1, .inr (5, [.ref h2, .ref r1, .int v2, .int v3])), (h2, .inl (g0, 4, .inl f4)), (h3, .inl (g1, 58, .inl f5))] s.heap.size = A at hD ⊢
  have hA : ∀ q : Nat, s.heap.size ≤ q → A q := fun q h => by rw [← hAe]; exact Or.inr h
  have hS : va_S A s.heap s.heap [] := va_S.rf
  generalize hQ : (MQ below _ _ s 0 0 A) = Q
  have hl := lv_entry ([.ref h0, .ref h1, .int v6, .int v7]) (n := 4) (Nat.le_of_ble_eq_true rfl)
  rw [lg_entry_eq]
  generalize (lg_sl ([.ref h0, .ref h1, .int v6, .int v7]) ++ List.replicate (4 - (lg_sl ([.ref h0, .ref h1, .int v6, .int v7])).length) Slot.unset).toArray = ls at hl ⊢
  have hl : lv_has ls 4 [(0, .ref h0), (1, .ref h1), (2, .int v6), (3, .int v7)] := hl
  obtain ⟨H, hH⟩ : ∃ H : Heap, H = s.heap := ⟨_, rfl⟩
  obtain ⟨locs, hlocs⟩ : ∃ y : List Loc, y = [] := ⟨_, rfl⟩
  have hS : va_S A s.heap H locs := by rw [hH, hlocs]; exact va_S.rf
  have hP : va_P (dC, dI) vwCl [(h0, .inr (7, [.ref h3, .ref r0, .int v0, .int v1])), (h1, .inr (5, [.ref h2, .ref r1, .int v2, .int v3])), (h2, .inl (g0, 4, .inl f4)), (h3, .inl (g1, 58, .inl f5))] H := by rw [hH]; exact hP
  rw [← hH, ← hlocs]
  refine lv_aload_n hx hb dX7_takes_0 rfl (lv_at hl 0 rfl) ?_
  refine lv_iload_n hx hb dX7_takes_1 rfl (lv_at hl 2 rfl) ?_
  have hPc := hP.sub (ws' := [(h0, .inr (7, [.ref h3, .ref r0, .int v0, .int v1])), (h3, .inl (g1, 58, .inl f5))]) [0, 3] rfl
  have hDc := hD.sub (ws' := [(h0, .inr (7, [.ref h3, .ref r0, .int v0, .int v1])), (h3, .inl (g1, 58, .inl f5))]) [0, 3] (by decide) rfl
  have hKc := hK.sub (tys' := [(g1, .int)]) [1] rfl
  have hFc := va_free (wc := [(h0, .inr (7, [.ref h3, .ref r0, .int v0, .int v1])), (h3, .inl (g1, 58, .inl f5))]) hD hS hA [0, 3] rfl
  refine va_calli (va_runV (As := [.int v6]) (rest := []) ⟨hx, hb, hml, hown, hts⟩ (k_X7_loadOn l dC dI h0 h3 r0 v0 v1 g1 f5 v6  H.size) (cwV 1 hts g_X7_takes_0 rfl rfl rfl (by decide +kernel) ⟨Nat.le_of_ble_eq_true rfl, Nat.le_of_ble_eq_true rfl⟩) ⟨fun a U g mk q => by obtain ⟨q0, q1, qP, qK, qD⟩ := q; exact ⟨q0, q1, qP, va_K.moved (u := U) (U := U.calling g mk a) (Vm.Alike.refl U.vm) qK, qD⟩, va_recv hKc hPc (ci := 7) (q0 := 0) rfl rfl, fun U hU hW => ⟨rfl, by rw [hU], by rw [hU]; exact hPc, va_K.moved hW.alike hKc, hDc.weaken (fun _ _ _ _ => trivial)⟩⟩ rfl rfl hl.1 rfl (lv_room (Nat.le_of_ble_eq_true rfl)) dX7_takes_2 ⟨Nat.le_of_ble_eq_true rfl, Nat.le_of_ble_eq_true rfl⟩) hS (fun q _ h => hFc q h) hFc (fun ra1 u t H1 locs ht hvm hwra1 hB hz1 hk1 hS => ?_)
  obtain ⟨hP1, hK1, hD1⟩ := hB
  rw [ht] at hP1
  obtain ⟨hP, hD⟩ := va_join (wr := [(h1, .inr (5, [.ref h2, .ref r1, .int v2, .int v3])), (h2, .inl (g0, 4, .inl f4))]) (w1 := [(h0, .inr (7, [.ref h3, .ref r0, .int v0, .int v1])), (h3, .inl (g1, 58, .inl f5))]) hP hD [0, 3] [1, 2] rfl rfl (by decide) (by decide) hk1 hFc hP1 hD1
  generalize H1 = H at hP hS ⊢
  have hP := hP.sub (ws' := [(h0, .inr (7, [.ref h3, .ref r0, .int v0, .int v1])), (h1, .inr (5, [.ref h2, .ref r1, .int v2, .int v3])), (h2, .inl (g0, 4, .inl f4)), (h3, .inl (g1, 58, .inl f5))]) [2, 0, 1, 3] rfl
  have hD := hD.sub (ws' := [(h0, .inr (7, [.ref h3, .ref r0, .int v0, .int v1])), (h1, .inr (5, [.ref h2, .ref r1, .int v2, .int v3])), (h2, .inl (g0, 4, .inl f4)), (h3, .inl (g1, 58, .inl f5))]) [2, 0, 1, 3] (by decide) rfl
  have hP : va_P (dC, dI) vwCl [(h0, .inr (7, [.ref h3, .ref r0, .int v0, .int v1])), (h1, .inr (5, [.ref h2, .ref r1, .int v2, .int v3])), (h2, .inl (g0, 4, .inl f4)), (h3, .inl (g1, 58, .inl f5))] H := hP
  have hD : va_D A [(h0, .inr (7, [.ref h3, .ref r0, .int v0, .int v1])), (h1, .inr (5, [.ref h2, .ref r1, .int v2, .int v3])), (h2, .inl (g0, 4, .inl f4)), (h3, .inl (g1, 58, .inl f5))] := hD
  refine lv_iload_n hx hb dX7_takes_5 rfl (lv_at hl 3 rfl) ?_
  refine lv_iadd hx hb dX7_takes_6 ?_
  refine lv_topi (fun t2 et2 => ?_)
  refine lv_aload_n hx hb dX7_takes_7 rfl (lv_at hl 1 rfl) ?_
  refine lv_iconst (v := 0) hx hb dX7_takes_8 (by decide) ?_
  have hPc := hP.sub (ws' := [(h1, .inr (5, [.ref h2, .ref r1, .int v2, .int v3])), (h2, .inl (g0, 4, .inl f4))]) [1, 2] rfl
  have hDc := hD.sub (ws' := [(h1, .inr (5, [.ref h2, .ref r1, .int v2, .int v3])), (h2, .inl (g0, 4, .inl f4))]) [1, 2] (by decide) rfl
  have hKc := hK.sub (tys' := [(g0, .int)]) [0] rfl
  have hFc := va_free (wc := [(h1, .inr (5, [.ref h2, .ref r1, .int v2, .int v3])), (h2, .inl (g0, 4, .inl f4))]) hD hS hA [1, 2] rfl
  refine va_calli (va_runV (As := [.int 0]) (rest := [.int t2]) ⟨hx, hb, hml, hown, hts⟩ (k_X5_ruleOf l dC dI h1 h2 r1 v2 v3 g0 f4 0 ⟨by first | omega | decide, by first | omega | decide⟩ H.size) (cwV 1 hts g_X7_takes_1 rfl rfl rfl (by decide +kernel) ⟨Nat.le_of_ble_eq_true rfl, Nat.le_of_ble_eq_true rfl⟩) ⟨fun a U g mk q => by obtain ⟨q0, q1, qP, qK, qD⟩ := q; exact ⟨q0, q1, qP, va_K.moved (u := U) (U := U.calling g mk a) (Vm.Alike.refl U.vm) qK, qD⟩, va_recv hKc hPc (ci := 5) (q0 := 0) rfl rfl, fun U hU hW => ⟨rfl, by rw [hU], by rw [hU]; exact hPc, va_K.moved hW.alike hKc, hDc.weaken (fun _ _ _ _ => trivial)⟩⟩ rfl rfl hl.1 rfl (lv_room (Nat.le_of_ble_eq_true rfl)) dX7_takes_9 ⟨Nat.le_of_ble_eq_true rfl, Nat.le_of_ble_eq_true rfl⟩) hS (fun q _ h => hFc q h) hFc (fun ra3 u t H1 locs ht hvm hwra3 hB hz1 hk1 hS => ?_)
  obtain ⟨hP1, hK1, hD1⟩ := hB
  rw [ht] at hP1
  obtain ⟨hP, hD⟩ := va_join (wr := [(h0, .inr (7, [.ref h3, .ref r0, .int v0, .int v1])), (h3, .inl (g1, 58, .inl f5))]) (w1 := [(h1, .inr (5, [.ref h2, .ref r1, .int v2, .int v3])), (h2, .inl (g0, 4, .inl f4))]) hP hD [1, 2] [0, 3] rfl rfl (by decide) (by decide) hk1 hFc hP1 hD1
  generalize H1 = H at hP hS ⊢
  have hP := hP.sub (ws' := [(h0, .inr (7, [.ref h3, .ref r0, .int v0, .int v1])), (h1, .inr (5, [.ref h2, .ref r1, .int v2, .int v3])), (h2, .inl (g0, 4, .inl f4)), (h3, .inl (g1, 58, .inl f5))]) [0, 2, 3, 1] rfl
  have hD := hD.sub (ws' := [(h0, .inr (7, [.ref h3, .ref r0, .int v0, .int v1])), (h1, .inr (5, [.ref h2, .ref r1, .int v2, .int v3])), (h2, .inl (g0, 4, .inl f4)), (h3, .inl (g1, 58, .inl f5))]) [0, 2, 3, 1] (by decide) rfl
  have hP : va_P (dC, dI) vwCl [(h0, .inr (7, [.ref h3, .ref r0, .int v0, .int v1])), (h1, .inr (5, [.ref h2, .ref r1, .int v2, .int v3])), (h2, .inl (g0, 4, .inl f4)), (h3, .inl (g1, 58, .inl f5))] H := hP
  have hD : va_D A [(h0, .inr (7, [.ref h3, .ref r0, .int v0, .int v1])), (h1, .inr (5, [.ref h2, .ref r1, .int v2, .int v3])), (h2, .inl (g0, 4, .inl f4)), (h3, .inl (g1, 58, .inl f5))] := hD
  have hJ5 : ∀ (x4 : Int32) (H : Heap) (locs : List Loc) (ls : Array Slot), 0 ≤ x4.toInt → x4.toInt ≤ 1 → va_P (dC, dI) vwCl [(h0, .inr (7, [.ref h3, .ref r0, .int v0, .int v1])), (h1, .inr (5, [.ref h2, .ref r1, .int v2, .int v3])), (h2, .inl (g0, 4, .inl f4)), (h3, .inl (g1, 58, .inl f5))] H → va_D A [(h0, .inr (7, [.ref h3, .ref r0, .int v0, .int v1])), (h1, .inr (5, [.ref h2, .ref r1, .int v2, .int v3])), (h2, .inl (g0, 4, .inl f4)), (h3, .inl (g1, 58, .inl f5))] → va_S A s.heap H locs → lv_has ls 4 [(0, .ref h0), (1, .ref h1), (2, .int v6), (3, .int v7)] → W p l e ({ frames := 1, cells := 0, slots := 0, locals := 23 }) s m ([.ref h0, .ref h1, .int v6, .int v7] : List Value).toArray below meth c H locs 0 0 Q (F0 m 20 ls [.int x4]) := by
    intro x4 H locs ls qa_x4 qb_x4 hP hD hS hl
    subst hQ
    have hP9 := hP.sub (ws' := [(h0, .inr (7, [.ref h3, .ref r0, .int v0, .int v1])), (h1, .inr (5, [.ref h2, .ref r1, .int v2, .int v3])), (h2, .inl (g0, 4, .inl f4)), (h3, .inl (g1, 58, .inl f5))]) [0, 1, 2, 3] rfl
    have hD9 := hD.sub (ws' := [(h0, .inr (7, [.ref h3, .ref r0, .int v0, .int v1])), (h1, .inr (5, [.ref h2, .ref r1, .int v2, .int v3])), (h2, .inl (g0, 4, .inl f4)), (h3, .inl (g1, 58, .inl f5))]) [0, 1, 2, 3] (by decide) rfl
    have hK9 := hK.sub (tys' := []) [] rfl
    exact W.zret (v := x4) hx hb hr (pv_nz (by omega) (by omega)) (fun t ht hW => ⟨⟨x4, (), rfl, ⟨by first | omega | decide, by first | omega | decide⟩, by rw [ht]; exact hP9, va_K.moved hW.alike hK9, hD9⟩, hS.F ht⟩) hS.2.2 dX7_takes_20
  refine lv_icmp_gt (tgt := 19) hx hb dX7_takes_12 (by decide) (fun c6 => ?_) (fun c6 => ?_)
  · skip
    have fc6 : ra3.toInt < t2.toInt := Int32.lt_iff_toInt_lt.mp c6
    have r1c6 := Int32.toInt_lt t2
    have r2c6 := Int32.toInt_lt ra3
    have r3c6 := Int32.le_toInt t2
    have r4c6 := Int32.le_toInt ra3
    refine lv_iconst (v := 0) hx hb dX7_takes_19 (by decide) ?_
    exact hJ5 0 H locs ls (by first | omega | decide) (by first | omega | decide) hP hD hS (lv_sub hl [0, 1, 2, 3] rfl)
  · skip
    have fc6 : ¬ (ra3.toInt < t2.toInt) := fun h9 => c6 (Int32.lt_iff_toInt_lt.mpr h9)
    have r1c6 := Int32.toInt_lt t2
    have r2c6 := Int32.toInt_lt ra3
    have r3c6 := Int32.le_toInt t2
    have r4c6 := Int32.le_toInt ra3
    refine lv_iconst (v := 1) hx hb dX7_takes_15 (by decide) ?_
    refine lv_goto (tgt := 20) hx hb dX7_takes_16 (by decide) ?_
    exact hJ5 1 H locs ls (by first | omega | decide) (by first | omega | decide) hP hD hS (lv_sub hl [0, 1, 2, 3] rfl)
def q_X7_othersWith : List Cond := .code yX7_othersWith cX7_othersWith 5 (some .int) :: (([.code yX7_of cX7_of 3 (some .int), .fieldLink RX7 11 "LeftArguments$Room" "cells" "[I", .initialized RX7, .instanceMethod yX7_of, .selects RX7 yX7_of yX7_of, .methodLink RX7 74 yX7_of] : List Cond) ++ wsX70)
set_option maxRecDepth 20000 in
theorem g_X7_othersWith_0 : GoodIn q_X7_othersWith (wsV RX7 74 RX7 yX7_of q_X7_of) := goodIn_app (goodIn_r _ [6, 4, 5, 3] (by decide +kernel) (by decide +kernel)) (goodIn_ca (goodIn_r (.code yX7_of cX7_of 3 (some .int) :: [.fieldLink RX7 11 "LeftArguments$Room" "cells" "[I"]) [1, 2] (by decide +kernel) (by decide +kernel)) (goodIn_sub (fun _ h => List.mem_cons_of_mem _ (List.mem_append_right _ h)) gwX7))
set_option maxHeartbeats 4000000 in
set_option maxRecDepth 100000 in
theorem k_X7_othersWith (l : Launch) (dC : Nat → ClassId) (dI : Nat → Nat → Nat) (h0 : Nat) (h1 : Nat) (r0 : Nat) (v0 : Int32) (v1 : Int32) (g0 : ClassId) (f2 : Nat → Int32) (v3 : Int32) (sz : Nat) : Met l yX7_othersWith q_X7_othersWith ({ frames := 1, cells := 0, slots := 0, locals := 22 }) (va_Pc [.ref h0, .int v3] (fun U => U.heap.size = sz ∧ va_P (dC, dI) vwCl [(h0, .inr (7, [.ref h1, .ref r0, .int v0, .int v1])), (h1, .inl (g0, 58, .inl f2))] U.heap ∧ va_K (dC, dI) vwCl [(g0, .int)] U ∧ va_D (fun _ => True) [(h0, .inr (7, [.ref h1, .ref r0, .int v0, .int v1])), (h1, .inl (g0, 58, .inl f2))])) (va_Qi (fun (r : Int32) (_ : Unit) => True) (fun (_ : Unit) (t : State) => va_P (dC, dI) vwCl [(h0, .inr (7, [.ref h1, .ref r0, .int v0, .int v1])), (h1, .inl (g0, 58, .inl f2))] t.heap ∧ va_K (dC, dI) vwCl [] t ∧ va_D (va_A [(h0, .inr (7, [.ref h1, .ref r0, .int v0, .int v1])), (h1, .inl (g0, 58, .inl f2))] sz) [(h0, .inr (7, [.ref h1, .ref r0, .int v0, .int v1])), (h1, .inl (g0, 58, .inl f2))]) (va_A [(h0, .inr (7, [.ref h1, .ref r0, .int v0, .int v1])), (h1, .inl (g0, 58, .inl f2))] sz)) 0 0 (va_A [(h0, .inr (7, [.ref h1, .ref r0, .int v0, .int v1])), (h1, .inl (g0, 58, .inl f2))] sz) := by
  refine Met.ofW (cc := cX7_othersWith) (maxL := 5) (ret := (some .int)) (by decide) rfl ?_
  intro p e s m args below meth c s₁ B hml hv
  obtain ⟨rfl, hsz, hP, hK, hD0⟩ := hv
  have hx := B.exec
  have hb := B.bytes
  have hr := B.returns
  have hts := atoms_spec (ws := q_X7_othersWith) B.pre
  have hown : s.vm.findClass RX7 = some m.cls := findClass_of_methodNamed B.named
  have hlocks := B.notSynchronized
  subst hsz
  have hD := hD0.self (sz := s.heap.size)
  generalize hAe : va_A [(h0, .inr (7, [.ref h1, .ref r0, .int v0, .int v1])), (h1, .inl (g0, 58, .inl f2))] s.heap.size = A at hD ⊢
  have hA : ∀ q : Nat, s.heap.size ≤ q → A q := fun q h => by rw [← hAe]; exact Or.inr h
  have hS : va_S A s.heap s.heap [] := va_S.rf
  generalize hQ : (MQ below _ _ s 0 0 A) = Q
  have hl := lv_entry ([.ref h0, .int v3]) (n := 5) (Nat.le_of_ble_eq_true rfl)
  rw [lg_entry_eq]
  generalize (lg_sl ([.ref h0, .int v3]) ++ List.replicate (5 - (lg_sl ([.ref h0, .int v3])).length) Slot.unset).toArray = ls at hl ⊢
  have hl : lv_has ls 5 [(0, .ref h0), (1, .int v3)] := hl
  obtain ⟨H, hH⟩ : ∃ H : Heap, H = s.heap := ⟨_, rfl⟩
  obtain ⟨locs, hlocs⟩ : ∃ y : List Loc, y = [] := ⟨_, rfl⟩
  have hS : va_S A s.heap H locs := by rw [hH, hlocs]; exact va_S.rf
  have hP : va_P (dC, dI) vwCl [(h0, .inr (7, [.ref h1, .ref r0, .int v0, .int v1])), (h1, .inl (g0, 58, .inl f2))] H := by rw [hH]; exact hP
  rw [← hH, ← hlocs]
  refine lv_aload_n hx hb dX7_othersWith_0 rfl (lv_at hl 0 rfl) ?_
  refine lv_iload_n hx hb dX7_othersWith_1 rfl (lv_at hl 1 rfl) ?_
  refine lv_iconst (v := 3) hx hb dX7_othersWith_2 (by decide) ?_
  have hPc := hP.sub (ws' := [(h0, .inr (7, [.ref h1, .ref r0, .int v0, .int v1])), (h1, .inl (g0, 58, .inl f2))]) [0, 1] rfl
  have hDc := hD.sub (ws' := [(h0, .inr (7, [.ref h1, .ref r0, .int v0, .int v1])), (h1, .inl (g0, 58, .inl f2))]) [0, 1] (by decide) rfl
  have hKc := hK.sub (tys' := [(g0, .int)]) [0] rfl
  have hFc := va_free (wc := [(h0, .inr (7, [.ref h1, .ref r0, .int v0, .int v1])), (h1, .inl (g0, 58, .inl f2))]) hD hS hA [0, 1] rfl
  refine va_calli (va_runV (As := [.int v3, .int 3]) (rest := []) ⟨hx, hb, hml, hown, hts⟩ (k_X7_of l dC dI h0 h1 r0 v0 v1 g0 f2 v3 3  H.size) (cwV 2 hts g_X7_othersWith_0 rfl rfl rfl (by decide +kernel) ⟨Nat.le_of_ble_eq_true rfl, Nat.le_of_ble_eq_true rfl⟩) ⟨fun a U g mk q => by obtain ⟨q0, q1, qP, qK, qD⟩ := q; exact ⟨q0, q1, qP, va_K.moved (u := U) (U := U.calling g mk a) (Vm.Alike.refl U.vm) qK, qD⟩, va_recv hKc hPc (ci := 7) (q0 := 0) rfl rfl, fun U hU hW => ⟨rfl, by rw [hU], by rw [hU]; exact hPc, va_K.moved hW.alike hKc, hDc.weaken (fun _ _ _ _ => trivial)⟩⟩ rfl rfl hl.1 rfl (lv_room (Nat.le_of_ble_eq_true rfl)) dX7_othersWith_3 ⟨Nat.le_of_ble_eq_true rfl, Nat.le_of_ble_eq_true rfl⟩) hS (fun q _ h => hFc q h) hFc (fun ra1 u t H1 locs ht hvm hwra1 hB hz1 hk1 hS => ?_)
  obtain ⟨hP1, hK1, hD1⟩ := hB
  rw [ht] at hP1
  obtain ⟨hP, hD⟩ := va_join (wr := []) (w1 := [(h0, .inr (7, [.ref h1, .ref r0, .int v0, .int v1])), (h1, .inl (g0, 58, .inl f2))]) hP hD [0, 1] [] rfl rfl (by decide) (by decide) hk1 hFc hP1 hD1
  generalize H1 = H at hP hS ⊢
  have hP : va_P (dC, dI) vwCl [(h0, .inr (7, [.ref h1, .ref r0, .int v0, .int v1])), (h1, .inl (g0, 58, .inl f2))] H := hP
  have hD : va_D A [(h0, .inr (7, [.ref h1, .ref r0, .int v0, .int v1])), (h1, .inl (g0, 58, .inl f2))] := hD
  refine lv_istore_n (lv' := [(2, .int ra1), (0, .ref h0), (1, .int v3)]) hx hb dX7_othersWith_6 rfl hl (by decide) rfl (fun ls hl => ?_)
  refine lv_iconst (v := 0) hx hb dX7_othersWith_7 (by decide) ?_
  refine lv_istore_n (lv' := [(3, .int 0), (2, .int ra1), (0, .ref h0), (1, .int v3)]) hx hb dX7_othersWith_8 rfl hl (by decide) rfl (fun ls hl => ?_)
  refine lv_iconst (v := 0) hx hb dX7_othersWith_9 (by decide) ?_
  refine lv_istore (lv' := [(4, .int 0), (3, .int 0), (2, .int ra1), (0, .ref h0), (1, .int v3)]) hx hb dX7_othersWith_10 hl (by decide) rfl (fun ls hl => ?_)
  have hL36 : ∀ (n9 : Nat), ∀ (x32 : Int32) (x33 : Int32) (H : Heap) (locs : List Loc) (ls : Array Slot), 0 ≤ x32.toInt → x32.toInt ≤ 8 → (8 - x32.toInt).toNat < n9 → va_P (dC, dI) vwCl [(h0, .inr (7, [.ref h1, .ref r0, .int v0, .int v1])), (h1, .inl (g0, 58, .inl f2))] H → va_D A [(h0, .inr (7, [.ref h1, .ref r0, .int v0, .int v1])), (h1, .inl (g0, 58, .inl f2))] → va_S A s.heap H locs → lv_has ls 5 [(4, .int x32), (3, .int x33), (2, .int ra1), (0, .ref h0), (1, .int v3)] → W p l e ({ frames := 1, cells := 0, slots := 0, locals := 22 }) s m ([.ref h0, .int v3] : List Value).toArray below meth c H locs 0 0 Q (F0 m 12 ls []) := by
    intro n9
    induction n9 with
    | zero => intro x32 x33 H locs ls qa_x32 qb_x32 hm9 hP hD hS hl; exact absurd hm9 (Nat.not_lt_zero _)
    | succ n9 ih =>
      intro x32 x33 H locs ls qa_x32 qb_x32 hm9 hP hD hS hl
      refine lv_iload hx hb dX7_othersWith_12 (lv_at hl 0 rfl) ?_
      refine lv_bipush (v := 8) hx hb dX7_othersWith_14 (by decide) ?_
      refine lv_icmp_ge (tgt := 58) hx hb dX7_othersWith_16 (by decide) (fun c37 => ?_) (fun c37 => ?_)
      · skip
        have fc37 : 8 ≤ x32.toInt := Int32.le_iff_toInt_le.mp c37
        refine lv_iload_n hx hb dX7_othersWith_58 rfl (lv_at hl 1 rfl) ?_
        subst hQ
        have hP9 := hP.sub (ws' := [(h0, .inr (7, [.ref h1, .ref r0, .int v0, .int v1])), (h1, .inl (g0, 58, .inl f2))]) [0, 1] rfl
        have hD9 := hD.sub (ws' := [(h0, .inr (7, [.ref h1, .ref r0, .int v0, .int v1])), (h1, .inl (g0, 58, .inl f2))]) [0, 1] (by decide) rfl
        have hK9 := hK.sub (tys' := []) [] rfl
        exact W.iret (v := x33) hx hb hr (fun t ht hW => ⟨⟨x33, (), rfl, trivial, by rw [ht]; exact hP9, va_K.moved hW.alike hK9, hD9⟩, hS.F ht⟩) hS.2.2 dX7_othersWith_59
      · skip
        have fc37 : ¬ (8 ≤ x32.toInt) := fun h9 => c37 (Int32.le_iff_toInt_le.mpr h9)
        refine lv_aload_n hx hb dX7_othersWith_19 rfl (lv_at hl 3 rfl) ?_
        refine va_get (D := (dC, dI)) (ci := 7) (v := .ref h1) (C := RX7) (T := TX7) (N := 4) hx hb hts (fun _ h => List.mem_cons_of_mem _ (List.mem_append_right _ h)) hown hK hP 0 rfl rfl 0 (by decide) (hts (.fieldLink RX7 11 "LeftArguments$Room" "cells" "[I") (List.mem_cons_of_mem _ (List.mem_append_left _ (List.mem_of_getElem? (i := 1) rfl)))) (fun _ h9 => h9) rfl dX7_othersWith_20 ?_
        refine lv_iload hx hb dX7_othersWith_23 (lv_at hl 0 rfl) ?_
        refine va_iald hx hb hK hP 1 0 rfl rfl (vp_in_iff.mpr ⟨by omega, by omega⟩) dX7_othersWith_25 ?_
        refine lv_topi (fun t38 et38 => ?_)
        have hJ40 : ∀ (x39 : Int32) (H : Heap) (locs : List Loc) (ls : Array Slot), va_P (dC, dI) vwCl [(h0, .inr (7, [.ref h1, .ref r0, .int v0, .int v1])), (h1, .inl (g0, 58, .inl f2))] H → va_D A [(h0, .inr (7, [.ref h1, .ref r0, .int v0, .int v1])), (h1, .inl (g0, 58, .inl f2))] → va_S A s.heap H locs → lv_has ls 5 [(4, .int x32), (3, .int x39), (2, .int ra1), (0, .ref h0), (1, .int v3)] → W p l e ({ frames := 1, cells := 0, slots := 0, locals := 22 }) s m ([.ref h0, .int v3] : List Value).toArray below meth c H locs 0 0 Q (F0 m 52 ls []) := by
          intro x39 H locs ls hP hD hS hl
          obtain ⟨t41, et41⟩ : ∃ y : Int32, y = x32 + 1 := ⟨_, rfl⟩
          have gt41 : t41.toInt = x32.toInt + (1) := pv_add (a := x32.toInt) (b := (1)) et41 rfl (by decide) (by omega) (by omega)
          refine lv_iinc (v := t41) (lv' := [(4, .int t41), (3, .int x39), (2, .int ra1), (0, .ref h0), (1, .int v3)]) hx hb dX7_othersWith_52 hl (k := 0) rfl (by rw [et41]; rfl) (by decide) rfl (fun ls hl => ?_)
          refine lv_goto (tgt := 12) hx hb dX7_othersWith_55 (by decide) ?_
          exact ih t41 x39 H locs ls (by first | omega | decide) (by first | omega | decide) (by first | omega | (simp only [Int.toNat] at *; omega)) hP hD hS (lv_sub hl [0, 1, 2, 3, 4] rfl)
        refine lv_if_le (tgt := 52) hx hb dX7_othersWith_26 (by decide) (fun c42 => ?_) (fun c42 => ?_)
        · skip
          have fc42 : t38.toInt ≤ 0 := Int32.le_iff_toInt_le.mp c42
          exact hJ40 x33 H locs ls hP hD hS (lv_sub hl [0, 1, 2, 3, 4] rfl)
        · skip
          have fc42 : ¬ (t38.toInt ≤ 0) := fun h9 => c42 (Int32.le_iff_toInt_le.mpr h9)
          refine lv_aload_n hx hb dX7_othersWith_29 rfl (lv_at hl 3 rfl) ?_
          refine va_get (D := (dC, dI)) (ci := 7) (v := .ref h1) (C := RX7) (T := TX7) (N := 4) hx hb hts (fun _ h => List.mem_cons_of_mem _ (List.mem_append_right _ h)) hown hK hP 0 rfl rfl 0 (by decide) (hts (.fieldLink RX7 11 "LeftArguments$Room" "cells" "[I") (List.mem_cons_of_mem _ (List.mem_append_left _ (List.mem_of_getElem? (i := 1) rfl)))) (fun _ h9 => h9) rfl dX7_othersWith_30 ?_
          refine lv_bipush (v := 24) hx hb dX7_othersWith_33 (by decide) ?_
          refine lv_iload hx hb dX7_othersWith_35 (lv_at hl 0 rfl) ?_
          refine lv_iadd hx hb dX7_othersWith_37 ?_
          refine lv_topi (fun t43 et43 => ?_)
          have gt43 : t43.toInt = 24 + x32.toInt := pv_add (a := 24) (b := x32.toInt) et43 (by decide) rfl (by omega) (by omega)
          refine va_iald hx hb hK hP 1 0 rfl rfl (vp_in_iff.mpr ⟨by omega, by omega⟩) dX7_othersWith_38 ?_
          refine lv_topi (fun t44 et44 => ?_)
          refine lv_iload_n hx hb dX7_othersWith_39 rfl (lv_at hl 2 rfl) ?_
          refine lv_icmp_ne (tgt := 52) hx hb dX7_othersWith_40 (by decide) (fun c45 => ?_) (fun c45 => ?_)
          · skip
            have fc45 : ¬ (t44.toInt = ra1.toInt) := fun h9 => c45 (Int32.toInt_inj.mp h9)
            have r1c45 := Int32.toInt_lt t44
            have r2c45 := Int32.toInt_lt ra1
            have r3c45 := Int32.le_toInt t44
            have r4c45 := Int32.le_toInt ra1
            exact hJ40 x33 H locs ls hP hD hS (lv_sub hl [0, 1, 2, 3, 4] rfl)
          · skip
            have fc45 : t44.toInt = ra1.toInt := congrArg Int32.toInt c45
            have r1c45 := Int32.toInt_lt t44
            have r2c45 := Int32.toInt_lt ra1
            have r3c45 := Int32.le_toInt t44
            have r4c45 := Int32.le_toInt ra1
            refine lv_iload hx hb dX7_othersWith_43 (lv_at hl 0 rfl) ?_
            refine lv_iload_n hx hb dX7_othersWith_45 rfl (lv_at hl 4 rfl) ?_
            refine lv_icmp_eq (tgt := 52) hx hb dX7_othersWith_46 (by decide) (fun c46 => ?_) (fun c46 => ?_)
            · skip
              have fc46 : x32.toInt = v3.toInt := congrArg Int32.toInt c46
              have r1c46 := Int32.toInt_lt x32
              have r2c46 := Int32.toInt_lt v3
              have r3c46 := Int32.le_toInt x32
              have r4c46 := Int32.le_toInt v3
              exact hJ40 x33 H locs ls hP hD hS (lv_sub hl [0, 1, 2, 3, 4] rfl)
            · skip
              have fc46 : ¬ (x32.toInt = v3.toInt) := fun h9 => c46 (Int32.toInt_inj.mp h9)
              have r1c46 := Int32.toInt_lt x32
              have r2c46 := Int32.toInt_lt v3
              have r3c46 := Int32.le_toInt x32
              have r4c46 := Int32.le_toInt v3
              obtain ⟨t47, et47⟩ : ∃ y : Int32, y = x33 + 1 := ⟨_, rfl⟩
              refine lv_iinc (v := t47) (lv' := [(3, .int t47), (4, .int x32), (2, .int ra1), (0, .ref h0), (1, .int v3)]) hx hb dX7_othersWith_49 hl (k := 1) rfl (by rw [et47]; rfl) (by decide) rfl (fun ls hl => ?_)
              exact hJ40 t47 H locs ls hP hD hS (lv_sub hl [1, 0, 2, 3, 4] rfl)
  exact hL36 _ 0 0 H locs ls (by first | omega | decide) (by first | omega | decide) (Nat.lt_succ_self _) hP hD hS (lv_sub hl [0, 1, 2, 3, 4] rfl)
def q_X4_held : List Cond := .code yX4_held cX4_held 3 (some .int) :: (([] : List Cond))
set_option maxHeartbeats 4000000 in
set_option maxRecDepth 100000 in
theorem k_X4_held (l : Launch) (dC : Nat → ClassId) (dI : Nat → Nat → Nat) (w0 : Int64) (v1 : Int32) (sz : Nat) : Met l yX4_held q_X4_held ({ frames := 0, cells := 0, slots := 0, locals := 0 }) (va_Pc [.long w0, .int v1] (fun U => U.heap.size = sz ∧ va_P (dC, dI) vwCl [] U.heap ∧ va_K (dC, dI) vwCl [] U ∧ va_D (fun _ => True) [])) (va_Qi (fun (r : Int32) (_ : Unit) => True) (fun (_ : Unit) (t : State) => va_P (dC, dI) vwCl [] t.heap ∧ va_K (dC, dI) vwCl [] t ∧ va_D (va_A [] sz) []) (va_A [] sz)) 0 0 (va_A [] sz) := by
  refine Met.ofW (cc := cX4_held) (maxL := 3) (ret := (some .int)) (by decide) rfl ?_
  intro p e s m args below meth c s₁ B hml hv
  obtain ⟨rfl, hsz, hP, hK, hD0⟩ := hv
  have hx := B.exec
  have hb := B.bytes
  have hr := B.returns
  have hts := atoms_spec (ws := q_X4_held) B.pre
  have hown : s.vm.findClass RX4 = some m.cls := findClass_of_methodNamed B.named
  have hlocks := B.notSynchronized
  subst hsz
  have hD := hD0.self (sz := s.heap.size)
  generalize hAe : va_A [] s.heap.size = A at hD ⊢
  have hA : ∀ q : Nat, s.heap.size ≤ q → A q := fun q h => by rw [← hAe]; exact Or.inr h
  have hS : va_S A s.heap s.heap [] := va_S.rf
  generalize hQ : (MQ below _ _ s 0 0 A) = Q
  have hl := lv_entry ([.long w0, .int v1]) (n := 3) (Nat.le_of_ble_eq_true rfl)
  rw [lg_entry_eq]
  generalize (lg_sl ([.long w0, .int v1]) ++ List.replicate (3 - (lg_sl ([.long w0, .int v1])).length) Slot.unset).toArray = ls at hl ⊢
  have hl : lv_has ls 3 [(0, .long w0), (2, .int v1)] := hl
  obtain ⟨H, hH⟩ : ∃ H : Heap, H = s.heap := ⟨_, rfl⟩
  obtain ⟨locs, hlocs⟩ : ∃ y : List Loc, y = [] := ⟨_, rfl⟩
  have hS : va_S A s.heap H locs := by rw [hH, hlocs]; exact va_S.rf
  have hP : va_P (dC, dI) vwCl [] H := by rw [hH]; exact hP
  rw [← hH, ← hlocs]
  refine lv_lload_n hx hb dX4_held_0 rfl (lv_at hl 0 rfl) ?_
  refine lv_iload_n hx hb dX4_held_1 rfl (lv_at hl 1 rfl) ?_
  obtain ⟨y1, ey1⟩ : ∃ z : Int64, z = (v1 : Int32).toInt64 := ⟨_, rfl⟩
  refine lv_i2l (v := y1) hx hb dX4_held_2 (by rw [ey1]) ?_
  refine W.lcmp hx hb dX4_held_3 ?_
  refine lv_topi (fun t2 et2 => ?_)
  refine lv_if_le (tgt := 9) hx hb dX4_held_4 (by decide) (fun c3 => ?_) (fun c3 => ?_)
  · skip
    have fc3 : t2.toInt ≤ 0 := Int32.le_iff_toInt_le.mp c3
    refine lv_lload_n hx hb dX4_held_9 rfl (lv_at hl 0 rfl) ?_
    refine lv_iload_n hx hb dX4_held_10 rfl (lv_at hl 1 rfl) ?_
    refine lv_ineg hx hb dX4_held_11 ?_
    refine lv_topi (fun t4 et4 => ?_)
    obtain ⟨y5, ey5⟩ : ∃ z : Int64, z = (t4 : Int32).toInt64 := ⟨_, rfl⟩
    refine lv_i2l (v := y5) hx hb dX4_held_12 (by rw [ey5]) ?_
    refine W.lcmp hx hb dX4_held_13 ?_
    refine lv_topi (fun t6 et6 => ?_)
    have hJ8 : ∀ (x7 : Int32) (H : Heap) (locs : List Loc) (ls : Array Slot), va_P (dC, dI) vwCl [] H → va_D A [] → va_S A s.heap H locs → lv_has ls 3 [(0, .long w0), (2, .int v1)] → W p l e ({ frames := 0, cells := 0, slots := 0, locals := 0 }) s m ([.long w0, .int v1] : List Value).toArray below meth c H locs 0 0 Q (F0 m 24 ls [.int x7]) := by
      intro x7 H locs ls hP hD hS hl
      subst hQ
      have hP9 := hP.sub (ws' := []) [] rfl
      have hD9 := hD.sub (ws' := []) [] (by decide) rfl
      have hK9 := hK.sub (tys' := []) [] rfl
      exact W.iret (v := x7) hx hb hr (fun t ht hW => ⟨⟨x7, (), rfl, trivial, by rw [ht]; exact hP9, va_K.moved hW.alike hK9, hD9⟩, hS.F ht⟩) hS.2.2 dX4_held_24
    refine lv_if_ge (tgt := 22) hx hb dX4_held_14 (by decide) (fun c9 => ?_) (fun c9 => ?_)
    · skip
      have fc9 : 0 ≤ t6.toInt := Int32.le_iff_toInt_le.mp c9
      refine lv_lload_n hx hb dX4_held_22 rfl (lv_at hl 0 rfl) ?_
      obtain ⟨t10, et10⟩ : ∃ z : Int32, z = (w0 : Int64).toInt32 := ⟨_, rfl⟩
      refine lv_l2i (v := t10) hx hb dX4_held_23 (by rw [et10]) ?_
      exact hJ8 t10 H locs ls hP hD hS (lv_sub hl [0, 1] rfl)
    · skip
      have fc9 : ¬ (0 ≤ t6.toInt) := fun h9 => c9 (Int32.le_iff_toInt_le.mpr h9)
      refine lv_iload_n hx hb dX4_held_17 rfl (lv_at hl 1 rfl) ?_
      refine lv_ineg hx hb dX4_held_18 ?_
      refine lv_topi (fun t11 et11 => ?_)
      refine lv_goto (tgt := 24) hx hb dX4_held_19 (by decide) ?_
      exact hJ8 t11 H locs ls hP hD hS (lv_sub hl [0, 1] rfl)
  · skip
    have fc3 : ¬ (t2.toInt ≤ 0) := fun h9 => c3 (Int32.le_iff_toInt_le.mpr h9)
    refine lv_iload_n hx hb dX4_held_7 rfl (lv_at hl 1 rfl) ?_
    subst hQ
    have hP9 := hP.sub (ws' := []) [] rfl
    have hD9 := hD.sub (ws' := []) [] (by decide) rfl
    have hK9 := hK.sub (tys' := []) [] rfl
    exact W.iret (v := v1) hx hb hr (fun t ht hW => ⟨⟨v1, (), rfl, trivial, by rw [ht]; exact hP9, va_K.moved hW.alike hK9, hD9⟩, hS.F ht⟩) hS.2.2 dX4_held_8
def q_X4_letterOf : List Cond := .code yX4_letterOf cX4_letterOf 2 (some .int) :: (([.fieldLink RX4 22 "LeftArguments$Laws" "letters" "[I"] : List Cond) ++ wsX40)
set_option maxHeartbeats 4000000 in
set_option maxRecDepth 100000 in
theorem k_X4_letterOf (l : Launch) (dC : Nat → ClassId) (dI : Nat → Nat → Nat) (h0 : Nat) (h1 : Nat) (r0 : Nat) (r1 : Nat) (r2 : Nat) (v0 : Int32) (v1 : Int32) (g0 : ClassId) (f2 : Nat → Int32) (v3 : Int32) (i_v0 : 0 ≤ v0.toInt ∧ v0.toInt ≤ 4) (sz : Nat) : Met l yX4_letterOf q_X4_letterOf ({ frames := 0, cells := 0, slots := 0, locals := 0 }) (va_Pc [.ref h0, .int v3] (fun U => U.heap.size = sz ∧ va_P (dC, dI) vwCl [(h0, .inr (4, [.ref r0, .ref r1, .ref h1, .ref r2, .int v0, .int v1])), (h1, .inl (g0, 6, .inl f2))] U.heap ∧ va_K (dC, dI) vwCl [(g0, .int)] U ∧ va_D (fun _ => True) [(h0, .inr (4, [.ref r0, .ref r1, .ref h1, .ref r2, .int v0, .int v1])), (h1, .inl (g0, 6, .inl f2))])) (va_Qi (fun (r : Int32) (_ : Unit) => True) (fun (_ : Unit) (t : State) => va_P (dC, dI) vwCl [(h0, .inr (4, [.ref r0, .ref r1, .ref h1, .ref r2, .int v0, .int v1])), (h1, .inl (g0, 6, .inl f2))] t.heap ∧ va_K (dC, dI) vwCl [] t ∧ va_D (va_A [(h0, .inr (4, [.ref r0, .ref r1, .ref h1, .ref r2, .int v0, .int v1])), (h1, .inl (g0, 6, .inl f2))] sz) [(h0, .inr (4, [.ref r0, .ref r1, .ref h1, .ref r2, .int v0, .int v1])), (h1, .inl (g0, 6, .inl f2))]) (va_A [(h0, .inr (4, [.ref r0, .ref r1, .ref h1, .ref r2, .int v0, .int v1])), (h1, .inl (g0, 6, .inl f2))] sz)) 0 0 (va_A [(h0, .inr (4, [.ref r0, .ref r1, .ref h1, .ref r2, .int v0, .int v1])), (h1, .inl (g0, 6, .inl f2))] sz) := by
  refine Met.ofW (cc := cX4_letterOf) (maxL := 2) (ret := (some .int)) (by decide) rfl ?_
  intro p e s m args below meth c s₁ B hml hv
  obtain ⟨i_v0a, i_v0b⟩ := i_v0
  obtain ⟨rfl, hsz, hP, hK, hD0⟩ := hv
  have hx := B.exec
  have hb := B.bytes
  have hr := B.returns
  have hts := atoms_spec (ws := q_X4_letterOf) B.pre
  have hown : s.vm.findClass RX4 = some m.cls := findClass_of_methodNamed B.named
  have hlocks := B.notSynchronized
  subst hsz
  have hD := hD0.self (sz := s.heap.size)
  generalize hAe : va_A [(h0, .inr (4, [.ref r0, .ref r1, .ref h1, .ref r2, .int v0, .int v1])), (h1, .inl (g0, 6, .inl f2))] s.heap.size = A at hD ⊢
  have hA : ∀ q : Nat, s.heap.size ≤ q → A q := fun q h => by rw [← hAe]; exact Or.inr h
  have hS : va_S A s.heap s.heap [] := va_S.rf
  generalize hQ : (MQ below _ _ s 0 0 A) = Q
  have hl := lv_entry ([.ref h0, .int v3]) (n := 2) (Nat.le_of_ble_eq_true rfl)
  rw [lg_entry_eq]
  generalize (lg_sl ([.ref h0, .int v3]) ++ List.replicate (2 - (lg_sl ([.ref h0, .int v3])).length) Slot.unset).toArray = ls at hl ⊢
  have hl : lv_has ls 2 [(0, .ref h0), (1, .int v3)] := hl
  obtain ⟨H, hH⟩ : ∃ H : Heap, H = s.heap := ⟨_, rfl⟩
  obtain ⟨locs, hlocs⟩ : ∃ y : List Loc, y = [] := ⟨_, rfl⟩
  have hS : va_S A s.heap H locs := by rw [hH, hlocs]; exact va_S.rf
  have hP : va_P (dC, dI) vwCl [(h0, .inr (4, [.ref r0, .ref r1, .ref h1, .ref r2, .int v0, .int v1])), (h1, .inl (g0, 6, .inl f2))] H := by rw [hH]; exact hP
  rw [← hH, ← hlocs]
  refine lv_iload_n hx hb dX4_letterOf_0 rfl (lv_at hl 1 rfl) ?_
  have hJ2 : ∀ (x1 : Int32) (H : Heap) (locs : List Loc) (ls : Array Slot), va_P (dC, dI) vwCl [(h0, .inr (4, [.ref r0, .ref r1, .ref h1, .ref r2, .int v0, .int v1])), (h1, .inl (g0, 6, .inl f2))] H → va_D A [(h0, .inr (4, [.ref r0, .ref r1, .ref h1, .ref r2, .int v0, .int v1])), (h1, .inl (g0, 6, .inl f2))] → va_S A s.heap H locs → lv_has ls 2 [(0, .ref h0), (1, .int v3)] → W p l e ({ frames := 0, cells := 0, slots := 0, locals := 0 }) s m ([.ref h0, .int v3] : List Value).toArray below meth c H locs 0 0 Q (F0 m 23 ls [.int x1]) := by
    intro x1 H locs ls hP hD hS hl
    subst hQ
    have hP9 := hP.sub (ws' := [(h0, .inr (4, [.ref r0, .ref r1, .ref h1, .ref r2, .int v0, .int v1])), (h1, .inl (g0, 6, .inl f2))]) [0, 1] rfl
    have hD9 := hD.sub (ws' := [(h0, .inr (4, [.ref r0, .ref r1, .ref h1, .ref r2, .int v0, .int v1])), (h1, .inl (g0, 6, .inl f2))]) [0, 1] (by decide) rfl
    have hK9 := hK.sub (tys' := []) [] rfl
    exact W.iret (v := x1) hx hb hr (fun t ht hW => ⟨⟨x1, (), rfl, trivial, by rw [ht]; exact hP9, va_K.moved hW.alike hK9, hD9⟩, hS.F ht⟩) hS.2.2 dX4_letterOf_23
  refine lv_if_lt (tgt := 22) hx hb dX4_letterOf_1 (by decide) (fun c3 => ?_) (fun c3 => ?_)
  · skip
    have fc3 : v3.toInt < 0 := Int32.lt_iff_toInt_lt.mp c3
    refine lv_iconst (v := 0) hx hb dX4_letterOf_22 (by decide) ?_
    exact hJ2 0 H locs ls hP hD hS (lv_sub hl [0, 1] rfl)
  · skip
    have fc3 : ¬ (v3.toInt < 0) := fun h9 => c3 (Int32.lt_iff_toInt_lt.mpr h9)
    refine lv_iload_n hx hb dX4_letterOf_4 rfl (lv_at hl 1 rfl) ?_
    refine lv_aload_n hx hb dX4_letterOf_5 rfl (lv_at hl 0 rfl) ?_
    refine va_get (D := (dC, dI)) (ci := 4) (v := .ref h1) (C := RX4) (T := TX4) (N := 6) hx hb hts (fun _ h => List.mem_cons_of_mem _ (List.mem_append_right _ h)) hown hK hP 0 rfl rfl 2 (by decide) (hts (.fieldLink RX4 22 "LeftArguments$Laws" "letters" "[I") (List.mem_cons_of_mem _ (List.mem_append_left _ (List.mem_of_getElem? (i := 0) rfl)))) (fun _ h9 => h9) rfl dX4_letterOf_6 ?_
    refine va_alen (v := 6) hx hb hK hP 1 0 rfl rfl (by rfl) dX4_letterOf_9 ?_
    refine lv_icmp_ge (tgt := 22) hx hb dX4_letterOf_10 (by decide) (fun c4 => ?_) (fun c4 => ?_)
    · skip
      have fc4 : 6 ≤ v3.toInt := Int32.le_iff_toInt_le.mp c4
      refine lv_iconst (v := 0) hx hb dX4_letterOf_22 (by decide) ?_
      exact hJ2 0 H locs ls hP hD hS (lv_sub hl [0, 1] rfl)
    · skip
      have fc4 : ¬ (6 ≤ v3.toInt) := fun h9 => c4 (Int32.le_iff_toInt_le.mpr h9)
      refine lv_aload_n hx hb dX4_letterOf_13 rfl (lv_at hl 0 rfl) ?_
      refine va_get (D := (dC, dI)) (ci := 4) (v := .ref h1) (C := RX4) (T := TX4) (N := 6) hx hb hts (fun _ h => List.mem_cons_of_mem _ (List.mem_append_right _ h)) hown hK hP 0 rfl rfl 2 (by decide) (hts (.fieldLink RX4 22 "LeftArguments$Laws" "letters" "[I") (List.mem_cons_of_mem _ (List.mem_append_left _ (List.mem_of_getElem? (i := 0) rfl)))) (fun _ h9 => h9) rfl dX4_letterOf_14 ?_
      refine lv_iload_n hx hb dX4_letterOf_17 rfl (lv_at hl 1 rfl) ?_
      refine va_iald hx hb hK hP 1 0 rfl rfl (vp_in_iff.mpr ⟨by omega, by omega⟩) dX4_letterOf_18 ?_
      refine lv_topi (fun t5 et5 => ?_)
      refine lv_goto (tgt := 23) hx hb dX4_letterOf_19 (by decide) ?_
      exact hJ2 t5 H locs ls hP hD hS (lv_sub hl [0, 1] rfl)
def q_X4_joined : List Cond := .code yX4_joined cX4_joined 5 (some .long) :: (([] : List Cond))
set_option maxHeartbeats 4000000 in
set_option maxRecDepth 100000 in
theorem k_X4_joined (l : Launch) (dC : Nat → ClassId) (dI : Nat → Nat → Nat) (v0 : Int32) (w1 : Int64) (w2 : Int64) (sz : Nat) : Met l yX4_joined q_X4_joined ({ frames := 0, cells := 0, slots := 0, locals := 0 }) (va_Pc [.int v0, .long w1, .long w2] (fun U => U.heap.size = sz ∧ va_P (dC, dI) vwCl [] U.heap ∧ va_K (dC, dI) vwCl [] U ∧ va_D (fun _ => True) [])) (va_Ql (fun (_ : Int64) (_ : Unit) => True) (fun (_ : Unit) (t : State) => va_P (dC, dI) vwCl [] t.heap ∧ va_K (dC, dI) vwCl [] t ∧ va_D (va_A [] sz) []) (va_A [] sz)) 0 0 (va_A [] sz) := by
  refine Met.ofW (cc := cX4_joined) (maxL := 5) (ret := (some .long)) (by decide) rfl ?_
  intro p e s m args below meth c s₁ B hml hv
  obtain ⟨rfl, hsz, hP, hK, hD0⟩ := hv
  have hx := B.exec
  have hb := B.bytes
  have hr := B.returns
  have hts := atoms_spec (ws := q_X4_joined) B.pre
  have hown : s.vm.findClass RX4 = some m.cls := findClass_of_methodNamed B.named
  have hlocks := B.notSynchronized
  subst hsz
  have hD := hD0.self (sz := s.heap.size)
  generalize hAe : va_A [] s.heap.size = A at hD ⊢
  have hA : ∀ q : Nat, s.heap.size ≤ q → A q := fun q h => by rw [← hAe]; exact Or.inr h
  have hS : va_S A s.heap s.heap [] := va_S.rf
  generalize hQ : (MQ below _ _ s 0 0 A) = Q
  have hl := lv_entry ([.int v0, .long w1, .long w2]) (n := 5) (Nat.le_of_ble_eq_true rfl)
  rw [lg_entry_eq]
  generalize (lg_sl ([.int v0, .long w1, .long w2]) ++ List.replicate (5 - (lg_sl ([.int v0, .long w1, .long w2])).length) Slot.unset).toArray = ls at hl ⊢
  have hl : lv_has ls 5 [(0, .int v0), (1, .long w1), (3, .long w2)] := hl
  obtain ⟨H, hH⟩ : ∃ H : Heap, H = s.heap := ⟨_, rfl⟩
  obtain ⟨locs, hlocs⟩ : ∃ y : List Loc, y = [] := ⟨_, rfl⟩
  have hS : va_S A s.heap H locs := by rw [hH, hlocs]; exact va_S.rf
  have hP : va_P (dC, dI) vwCl [] H := by rw [hH]; exact hP
  rw [← hH, ← hlocs]
  refine lv_iload_n hx hb dX4_joined_0 rfl (lv_at hl 0 rfl) ?_
  by_cases c1 : v0 = 2
  · skip
    have fc1 : v0.toInt = 2 := congrArg Int32.toInt c1
    refine lv_tableIn (off := 51) (tgt := 52) hx hb dX4_joined_1 (by rw [c1]; decide) (by rw [c1]; decide) (by rw [c1]; rfl) (by decide) ?_
    refine lv_lload_n hx hb dX4_joined_52 rfl (lv_at hl 1 rfl) ?_
    refine lv_lload_n hx hb dX4_joined_53 rfl (lv_at hl 2 rfl) ?_
    refine lv_ladd hx hb dX4_joined_54 ?_
    refine lv_topl (fun y2 ey2 => ?_)
    subst hQ
    have hP9 := hP.sub (ws' := []) [] rfl
    have hD9 := hD.sub (ws' := []) [] (by decide) rfl
    have hK9 := hK.sub (tys' := []) [] rfl
    exact W.lret (v := y2) hx hb hr (fun t ht hW => ⟨⟨y2, (), rfl, trivial, by rw [ht]; exact hP9, va_K.moved hW.alike hK9, hD9⟩, hS.F ht⟩) hS.2.2 dX4_joined_55
  by_cases c3 : v0 = 3
  · skip
    have fc3 : v0.toInt = 3 := congrArg Int32.toInt c3
    refine lv_tableIn (off := 55) (tgt := 56) hx hb dX4_joined_1 (by rw [c3]; decide) (by rw [c3]; decide) (by rw [c3]; rfl) (by decide) ?_
    refine lv_lload_n hx hb dX4_joined_56 rfl (lv_at hl 1 rfl) ?_
    refine lv_lload_n hx hb dX4_joined_57 rfl (lv_at hl 2 rfl) ?_
    refine lv_lsub hx hb dX4_joined_58 ?_
    refine lv_topl (fun y4 ey4 => ?_)
    subst hQ
    have hP9 := hP.sub (ws' := []) [] rfl
    have hD9 := hD.sub (ws' := []) [] (by decide) rfl
    have hK9 := hK.sub (tys' := []) [] rfl
    exact W.lret (v := y4) hx hb hr (fun t ht hW => ⟨⟨y4, (), rfl, trivial, by rw [ht]; exact hP9, va_K.moved hW.alike hK9, hD9⟩, hS.F ht⟩) hS.2.2 dX4_joined_59
  by_cases c5 : v0 = 4
  · skip
    have fc5 : v0.toInt = 4 := congrArg Int32.toInt c5
    refine lv_tableIn (off := 59) (tgt := 60) hx hb dX4_joined_1 (by rw [c5]; decide) (by rw [c5]; decide) (by rw [c5]; rfl) (by decide) ?_
    refine lv_lload_n hx hb dX4_joined_60 rfl (lv_at hl 1 rfl) ?_
    refine lv_lload_n hx hb dX4_joined_61 rfl (lv_at hl 2 rfl) ?_
    refine lv_lmul hx hb dX4_joined_62 ?_
    refine lv_topl (fun y6 ey6 => ?_)
    subst hQ
    have hP9 := hP.sub (ws' := []) [] rfl
    have hD9 := hD.sub (ws' := []) [] (by decide) rfl
    have hK9 := hK.sub (tys' := []) [] rfl
    exact W.lret (v := y6) hx hb hr (fun t ht hW => ⟨⟨y6, (), rfl, trivial, by rw [ht]; exact hP9, va_K.moved hW.alike hK9, hD9⟩, hS.F ht⟩) hS.2.2 dX4_joined_63
  by_cases c7 : v0 = 5
  · skip
    have fc7 : v0.toInt = 5 := congrArg Int32.toInt c7
    refine lv_tableIn (off := 63) (tgt := 64) hx hb dX4_joined_1 (by rw [c7]; decide) (by rw [c7]; decide) (by rw [c7]; rfl) (by decide) ?_
    refine lv_lload_n hx hb dX4_joined_64 rfl (lv_at hl 2 rfl) ?_
    refine lv_lconst (v := 0) hx hb dX4_joined_65 (by decide) ?_
    refine W.lcmp hx hb dX4_joined_66 ?_
    refine lv_topi (fun t8 et8 => ?_)
    have hJ10 : ∀ (y9 : Int64) (H : Heap) (locs : List Loc) (ls : Array Slot), va_P (dC, dI) vwCl [] H → va_D A [] → va_S A s.heap H locs → lv_has ls 5 [(0, .int v0), (1, .long w1), (3, .long w2)] → W p l e ({ frames := 0, cells := 0, slots := 0, locals := 0 }) s m ([.int v0, .long w1, .long w2] : List Value).toArray below meth c H locs 0 0 Q (F0 m 77 ls [.long y9]) := by
      intro y9 H locs ls hP hD hS hl
      subst hQ
      have hP9 := hP.sub (ws' := []) [] rfl
      have hD9 := hD.sub (ws' := []) [] (by decide) rfl
      have hK9 := hK.sub (tys' := []) [] rfl
      exact W.lret (v := y9) hx hb hr (fun t ht hW => ⟨⟨y9, (), rfl, trivial, by rw [ht]; exact hP9, va_K.moved hW.alike hK9, hD9⟩, hS.F ht⟩) hS.2.2 dX4_joined_77
    refine lv_if_ne (tgt := 74) hx hb dX4_joined_67 (by decide) (fun c11 => ?_) (fun c11 => ?_)
    · skip
      have fc11 : ¬ (t8.toInt = 0) := fun h9 => c11 (Int32.toInt_inj.mp h9)
      have zc11 : ¬ w2 = 0 := pv_lne et8 c11
      refine lv_lload_n hx hb dX4_joined_74 rfl (lv_at hl 1 rfl) ?_
      refine lv_lload_n hx hb dX4_joined_75 rfl (lv_at hl 2 rfl) ?_
      refine lv_ldiv hx hb dX4_joined_76 zc11 ?_
      refine lv_topl (fun y12 ey12 => ?_)
      exact hJ10 y12 H locs ls hP hD hS (lv_sub hl [0, 1, 2] rfl)
    · skip
      have fc11 : t8.toInt = 0 := congrArg Int32.toInt c11
      refine lv_lconst (v := 0) hx hb dX4_joined_70 (by decide) ?_
      refine lv_goto (tgt := 77) hx hb dX4_joined_71 (by decide) ?_
      exact hJ10 0 H locs ls hP hD hS (lv_sub hl [0, 1, 2] rfl)
  by_cases c13 : v0 = 6
  · skip
    have fc13 : v0.toInt = 6 := congrArg Int32.toInt c13
    refine lv_tableIn (off := 77) (tgt := 78) hx hb dX4_joined_1 (by rw [c13]; decide) (by rw [c13]; decide) (by rw [c13]; rfl) (by decide) ?_
    refine lv_lload_n hx hb dX4_joined_78 rfl (lv_at hl 1 rfl) ?_
    refine lv_lload_n hx hb dX4_joined_79 rfl (lv_at hl 2 rfl) ?_
    refine W.lcmp hx hb dX4_joined_80 ?_
    refine lv_topi (fun t14 et14 => ?_)
    have hJ16 : ∀ (y15 : Int64) (H : Heap) (locs : List Loc) (ls : Array Slot), va_P (dC, dI) vwCl [] H → va_D A [] → va_S A s.heap H locs → lv_has ls 5 [(0, .int v0), (1, .long w1), (3, .long w2)] → W p l e ({ frames := 0, cells := 0, slots := 0, locals := 0 }) s m ([.int v0, .long w1, .long w2] : List Value).toArray below meth c H locs 0 0 Q (F0 m 89 ls [.long y15]) := by
      intro y15 H locs ls hP hD hS hl
      subst hQ
      have hP9 := hP.sub (ws' := []) [] rfl
      have hD9 := hD.sub (ws' := []) [] (by decide) rfl
      have hK9 := hK.sub (tys' := []) [] rfl
      exact W.lret (v := y15) hx hb hr (fun t ht hW => ⟨⟨y15, (), rfl, trivial, by rw [ht]; exact hP9, va_K.moved hW.alike hK9, hD9⟩, hS.F ht⟩) hS.2.2 dX4_joined_89
    refine lv_if_ne (tgt := 88) hx hb dX4_joined_81 (by decide) (fun c17 => ?_) (fun c17 => ?_)
    · skip
      have fc17 : ¬ (t14.toInt = 0) := fun h9 => c17 (Int32.toInt_inj.mp h9)
      refine lv_lconst (v := 0) hx hb dX4_joined_88 (by decide) ?_
      exact hJ16 0 H locs ls hP hD hS (lv_sub hl [0, 1, 2] rfl)
    · skip
      have fc17 : t14.toInt = 0 := congrArg Int32.toInt c17
      refine lv_lconst (v := 1) hx hb dX4_joined_84 (by decide) ?_
      refine lv_goto (tgt := 89) hx hb dX4_joined_85 (by decide) ?_
      exact hJ16 1 H locs ls hP hD hS (lv_sub hl [0, 1, 2] rfl)
  by_cases c18 : v0 = 7
  · skip
    have fc18 : v0.toInt = 7 := congrArg Int32.toInt c18
    refine lv_tableIn (off := 89) (tgt := 90) hx hb dX4_joined_1 (by rw [c18]; decide) (by rw [c18]; decide) (by rw [c18]; rfl) (by decide) ?_
    refine lv_lload_n hx hb dX4_joined_90 rfl (lv_at hl 1 rfl) ?_
    refine lv_lload_n hx hb dX4_joined_91 rfl (lv_at hl 2 rfl) ?_
    refine W.lcmp hx hb dX4_joined_92 ?_
    refine lv_topi (fun t19 et19 => ?_)
    have hJ21 : ∀ (y20 : Int64) (H : Heap) (locs : List Loc) (ls : Array Slot), va_P (dC, dI) vwCl [] H → va_D A [] → va_S A s.heap H locs → lv_has ls 5 [(0, .int v0), (1, .long w1), (3, .long w2)] → W p l e ({ frames := 0, cells := 0, slots := 0, locals := 0 }) s m ([.int v0, .long w1, .long w2] : List Value).toArray below meth c H locs 0 0 Q (F0 m 101 ls [.long y20]) := by
      intro y20 H locs ls hP hD hS hl
      subst hQ
      have hP9 := hP.sub (ws' := []) [] rfl
      have hD9 := hD.sub (ws' := []) [] (by decide) rfl
      have hK9 := hK.sub (tys' := []) [] rfl
      exact W.lret (v := y20) hx hb hr (fun t ht hW => ⟨⟨y20, (), rfl, trivial, by rw [ht]; exact hP9, va_K.moved hW.alike hK9, hD9⟩, hS.F ht⟩) hS.2.2 dX4_joined_101
    refine lv_if_ge (tgt := 100) hx hb dX4_joined_93 (by decide) (fun c22 => ?_) (fun c22 => ?_)
    · skip
      have fc22 : 0 ≤ t19.toInt := Int32.le_iff_toInt_le.mp c22
      refine lv_lconst (v := 0) hx hb dX4_joined_100 (by decide) ?_
      exact hJ21 0 H locs ls hP hD hS (lv_sub hl [0, 1, 2] rfl)
    · skip
      have fc22 : ¬ (0 ≤ t19.toInt) := fun h9 => c22 (Int32.le_iff_toInt_le.mpr h9)
      refine lv_lconst (v := 1) hx hb dX4_joined_96 (by decide) ?_
      refine lv_goto (tgt := 101) hx hb dX4_joined_97 (by decide) ?_
      exact hJ21 1 H locs ls hP hD hS (lv_sub hl [0, 1, 2] rfl)
  by_cases c23 : v0 = 8
  · skip
    have fc23 : v0.toInt = 8 := congrArg Int32.toInt c23
    refine lv_tableIn (off := 101) (tgt := 102) hx hb dX4_joined_1 (by rw [c23]; decide) (by rw [c23]; decide) (by rw [c23]; rfl) (by decide) ?_
    refine lv_lload_n hx hb dX4_joined_102 rfl (lv_at hl 1 rfl) ?_
    refine lv_lload_n hx hb dX4_joined_103 rfl (lv_at hl 2 rfl) ?_
    refine W.lcmp hx hb dX4_joined_104 ?_
    refine lv_topi (fun t24 et24 => ?_)
    have hJ26 : ∀ (y25 : Int64) (H : Heap) (locs : List Loc) (ls : Array Slot), va_P (dC, dI) vwCl [] H → va_D A [] → va_S A s.heap H locs → lv_has ls 5 [(0, .int v0), (1, .long w1), (3, .long w2)] → W p l e ({ frames := 0, cells := 0, slots := 0, locals := 0 }) s m ([.int v0, .long w1, .long w2] : List Value).toArray below meth c H locs 0 0 Q (F0 m 113 ls [.long y25]) := by
      intro y25 H locs ls hP hD hS hl
      subst hQ
      have hP9 := hP.sub (ws' := []) [] rfl
      have hD9 := hD.sub (ws' := []) [] (by decide) rfl
      have hK9 := hK.sub (tys' := []) [] rfl
      exact W.lret (v := y25) hx hb hr (fun t ht hW => ⟨⟨y25, (), rfl, trivial, by rw [ht]; exact hP9, va_K.moved hW.alike hK9, hD9⟩, hS.F ht⟩) hS.2.2 dX4_joined_113
    refine lv_if_le (tgt := 112) hx hb dX4_joined_105 (by decide) (fun c27 => ?_) (fun c27 => ?_)
    · skip
      have fc27 : t24.toInt ≤ 0 := Int32.le_iff_toInt_le.mp c27
      refine lv_lconst (v := 0) hx hb dX4_joined_112 (by decide) ?_
      exact hJ26 0 H locs ls hP hD hS (lv_sub hl [0, 1, 2] rfl)
    · skip
      have fc27 : ¬ (t24.toInt ≤ 0) := fun h9 => c27 (Int32.le_iff_toInt_le.mpr h9)
      refine lv_lconst (v := 1) hx hb dX4_joined_108 (by decide) ?_
      refine lv_goto (tgt := 113) hx hb dX4_joined_109 (by decide) ?_
      exact hJ26 1 H locs ls hP hD hS (lv_sub hl [0, 1, 2] rfl)
  by_cases c28 : v0 = 9
  · skip
    have fc28 : v0.toInt = 9 := congrArg Int32.toInt c28
    refine lv_tableIn (off := 117) (tgt := 118) hx hb dX4_joined_1 (by rw [c28]; decide) (by rw [c28]; decide) (by rw [c28]; rfl) (by decide) ?_
    refine lv_lload_n hx hb dX4_joined_118 rfl (lv_at hl 1 rfl) ?_
    refine lv_lload_n hx hb dX4_joined_119 rfl (lv_at hl 2 rfl) ?_
    refine lv_lor hx hb dX4_joined_120 ?_
    refine lv_topl (fun y29 ey29 => ?_)
    subst hQ
    have hP9 := hP.sub (ws' := []) [] rfl
    have hD9 := hD.sub (ws' := []) [] (by decide) rfl
    have hK9 := hK.sub (tys' := []) [] rfl
    exact W.lret (v := y29) hx hb hr (fun t ht hW => ⟨⟨y29, (), rfl, trivial, by rw [ht]; exact hP9, va_K.moved hW.alike hK9, hD9⟩, hS.F ht⟩) hS.2.2 dX4_joined_121
  by_cases c30 : v0 = 10
  · skip
    have fc30 : v0.toInt = 10 := congrArg Int32.toInt c30
    refine lv_tableIn (off := 113) (tgt := 114) hx hb dX4_joined_1 (by rw [c30]; decide) (by rw [c30]; decide) (by rw [c30]; rfl) (by decide) ?_
    refine lv_lload_n hx hb dX4_joined_114 rfl (lv_at hl 1 rfl) ?_
    refine lv_lload_n hx hb dX4_joined_115 rfl (lv_at hl 2 rfl) ?_
    refine lv_land hx hb dX4_joined_116 ?_
    refine lv_topl (fun y31 ey31 => ?_)
    subst hQ
    have hP9 := hP.sub (ws' := []) [] rfl
    have hD9 := hD.sub (ws' := []) [] (by decide) rfl
    have hK9 := hK.sub (tys' := []) [] rfl
    exact W.lret (v := y31) hx hb hr (fun t ht hW => ⟨⟨y31, (), rfl, trivial, by rw [ht]; exact hP9, va_K.moved hW.alike hK9, hD9⟩, hS.F ht⟩) hS.2.2 dX4_joined_117
  refine lv_tableOut (tgt := 118) hx hb dX4_joined_1 (pv_tabL 2 8 rfl (fun j hj => by rcases (show j = 0 ∨ j = 1 ∨ j = 2 ∨ j = 3 ∨ j = 4 ∨ j = 5 ∨ j = 6 ∨ j = 7 ∨ j = 8 by omega) with rfl | rfl | rfl | rfl | rfl | rfl | rfl | rfl | rfl <;> assumption)) (by decide) ?_
  refine lv_lload_n hx hb dX4_joined_118 rfl (lv_at hl 1 rfl) ?_
  refine lv_lload_n hx hb dX4_joined_119 rfl (lv_at hl 2 rfl) ?_
  refine lv_lor hx hb dX4_joined_120 ?_
  refine lv_topl (fun y32 ey32 => ?_)
  subst hQ
  have hP9 := hP.sub (ws' := []) [] rfl
  have hD9 := hD.sub (ws' := []) [] (by decide) rfl
  have hK9 := hK.sub (tys' := []) [] rfl
  exact W.lret (v := y32) hx hb hr (fun t ht hW => ⟨⟨y32, (), rfl, trivial, by rw [ht]; exact hP9, va_K.moved hW.alike hK9, hD9⟩, hS.F ht⟩) hS.2.2 dX4_joined_121
def q_X4_worth : List Cond := .code yX4_worth cX4_worth 7 (some .int) :: (([.fieldLink RX4 25 "LeftArguments$Laws" "pile" "[I", .code yX4_joined cX4_joined 5 (some .long), .initialized RX4, .static yX4_joined, .methodLink RX4 69 yX4_joined, .constant RX4 73 (1000000), .code yX4_held cX4_held 3 (some .int), .static yX4_held, .methodLink RX4 49 yX4_held, .methodLink RX4 64 Lib.Math.max.name, .static Lib.Math.max.name, .initialized "java/lang/Math", .code Lib.Math.max.name Lib.Math.max.code 2 (some .int), .code yX4_letterOf cX4_letterOf 2 (some .int), .fieldLink RX4 22 "LeftArguments$Laws" "letters" "[I", .instanceMethod yX4_letterOf, .selects RX4 yX4_letterOf yX4_letterOf, .methodLink RX4 61 yX4_letterOf] : List Cond) ++ wsX40)
set_option maxRecDepth 20000 in
theorem g_X4_worth_0 : GoodIn q_X4_worth (va_wsS RX4 69 yX4_joined q_X4_joined) := goodIn_app (goodIn_r _ [5, 4, 3] (by decide +kernel) (by decide +kernel)) (goodIn_r (.code yX4_joined cX4_joined 5 (some .long) :: []) [2] (by decide +kernel) (by decide +kernel))
set_option maxRecDepth 20000 in
theorem g_X4_worth_1 : GoodIn q_X4_worth (va_wsS RX4 49 yX4_held q_X4_held) := goodIn_app (goodIn_r _ [9, 8, 3] (by decide +kernel) (by decide +kernel)) (goodIn_r (.code yX4_held cX4_held 3 (some .int) :: []) [7] (by decide +kernel) (by decide +kernel))
set_option maxRecDepth 20000 in
theorem g_X4_worth_2 : GoodIn q_X4_worth (wsV RX4 61 RX4 yX4_letterOf q_X4_letterOf) := goodIn_app (goodIn_r _ [18, 16, 17, 3] (by decide +kernel) (by decide +kernel)) (goodIn_ca (goodIn_r (.code yX4_letterOf cX4_letterOf 2 (some .int) :: [.fieldLink RX4 22 "LeftArguments$Laws" "letters" "[I"]) [14, 15] (by decide +kernel) (by decide +kernel)) (goodIn_sub (fun _ h => List.mem_cons_of_mem _ (List.mem_append_right _ h)) gwX4))
set_option maxHeartbeats 4000000 in
set_option maxRecDepth 100000 in
theorem k_X4_worth (l : Launch) (dC : Nat → ClassId) (dI : Nat → Nat → Nat) (h0 : Nat) (h1 : Nat) (h2 : Nat) (h3 : Nat) (r0 : Nat) (r1 : Nat) (v0 : Int32) (v1 : Int32) (g0 : ClassId) (f2 : Nat → Int32) (g1 : ClassId) (f3 : Nat → Int32) (g2 : ClassId) (f4 : Nat → Int32) (v5 : Int32) (i_v0 : 0 ≤ v0.toInt ∧ v0.toInt ≤ 4) (sz : Nat) : Met l yX4_worth q_X4_worth ({ frames := 1, cells := 0, slots := 0, locals := 24 }) (va_Pc [.ref h0, .ref h1, .int v5] (fun U => U.heap.size = sz ∧ va_P (dC, dI) vwCl [(h0, .inr (4, [.ref r0, .ref r1, .ref h2, .ref h3, .int v0, .int v1])), (h1, .inl (g0, 256, .inl f2)), (h2, .inl (g1, 6, .inl f3)), (h3, .inl (g2, 64, .inl f4))] U.heap ∧ va_K (dC, dI) vwCl [(g0, .int), (g1, .int), (g2, .int)] U ∧ va_D (fun _ => True) [(h0, .inr (4, [.ref r0, .ref r1, .ref h2, .ref h3, .int v0, .int v1])), (h1, .inl (g0, 256, .inl f2)), (h2, .inl (g1, 6, .inl f3)), (h3, .inl (g2, 64, .inl f4))])) (va_Qi (fun (r : Int32) (_ : Unit) => True) (fun (_ : Unit) (t : State) => ∃ (o_h3 : Nat → Int32), va_P (dC, dI) vwCl [(h0, .inr (4, [.ref r0, .ref r1, .ref h2, .ref h3, .int v0, .int v1])), (h1, .inl (g0, 256, .inl f2)), (h2, .inl (g1, 6, .inl f3)), (h3, .inl (g2, 64, .inl o_h3))] t.heap ∧ va_K (dC, dI) vwCl [] t ∧ va_D (va_A [(h0, .inr (4, [.ref r0, .ref r1, .ref h2, .ref h3, .int v0, .int v1])), (h1, .inl (g0, 256, .inl f2)), (h2, .inl (g1, 6, .inl f3)), (h3, .inl (g2, 64, .inl f4))] sz) [(h0, .inr (4, [.ref r0, .ref r1, .ref h2, .ref h3, .int v0, .int v1])), (h1, .inl (g0, 256, .inl f2)), (h2, .inl (g1, 6, .inl f3)), (h3, .inl (g2, 64, .inl o_h3))]) (va_A [(h0, .inr (4, [.ref r0, .ref r1, .ref h2, .ref h3, .int v0, .int v1])), (h1, .inl (g0, 256, .inl f2)), (h2, .inl (g1, 6, .inl f3)), (h3, .inl (g2, 64, .inl f4))] sz)) 0 0 (va_A [(h0, .inr (4, [.ref r0, .ref r1, .ref h2, .ref h3, .int v0, .int v1])), (h1, .inl (g0, 256, .inl f2)), (h2, .inl (g1, 6, .inl f3)), (h3, .inl (g2, 64, .inl f4))] sz) := by
  refine Met.ofW (cc := cX4_worth) (maxL := 7) (ret := (some .int)) (by decide) rfl ?_
  intro p e s m args below meth c s₁ B hml hv
  obtain ⟨i_v0a, i_v0b⟩ := i_v0
  obtain ⟨rfl, hsz, hP, hK, hD0⟩ := hv
  have hx := B.exec
  have hb := B.bytes
  have hr := B.returns
  have hts := atoms_spec (ws := q_X4_worth) B.pre
  have hown : s.vm.findClass RX4 = some m.cls := findClass_of_methodNamed B.named
  have hlocks := B.notSynchronized
  subst hsz
  have hD := hD0.self (sz := s.heap.size)
  generalize hAe : va_A [(h0, .inr (4, [.ref r0, .ref r1, .ref h2, .ref h3, .int v0, .int v1])), (h1, .inl (g0, 256, .inl f2)), (h2, .inl (g1, 6, .inl f3)), (h3, .inl (g2, 64, .inl f4))] s.heap.size = A at hD ⊢
  have hA : ∀ q : Nat, s.heap.size ≤ q → A q := fun q h => by rw [← hAe]; exact Or.inr h
  have hS : va_S A s.heap s.heap [] := va_S.rf
  generalize hQ : (MQ below _ _ s 0 0 A) = Q
  have hl := lv_entry ([.ref h0, .ref h1, .int v5]) (n := 7) (Nat.le_of_ble_eq_true rfl)
  rw [lg_entry_eq]
  generalize (lg_sl ([.ref h0, .ref h1, .int v5]) ++ List.replicate (7 - (lg_sl ([.ref h0, .ref h1, .int v5])).length) Slot.unset).toArray = ls at hl ⊢
  have hl : lv_has ls 7 [(0, .ref h0), (1, .ref h1), (2, .int v5)] := hl
  obtain ⟨H, hH⟩ : ∃ H : Heap, H = s.heap := ⟨_, rfl⟩
  obtain ⟨locs, hlocs⟩ : ∃ y : List Loc, y = [] := ⟨_, rfl⟩
  have hS : va_S A s.heap H locs := by rw [hH, hlocs]; exact va_S.rf
  have hP : va_P (dC, dI) vwCl [(h0, .inr (4, [.ref r0, .ref r1, .ref h2, .ref h3, .int v0, .int v1])), (h1, .inl (g0, 256, .inl f2)), (h2, .inl (g1, 6, .inl f3)), (h3, .inl (g2, 64, .inl f4))] H := by rw [hH]; exact hP
  rw [← hH, ← hlocs]
  refine lv_iconst (v := 0) hx hb dX4_worth_0 (by decide) ?_
  refine lv_istore_n (lv' := [(3, .int 0), (0, .ref h0), (1, .ref h1), (2, .int v5)]) hx hb dX4_worth_1 rfl hl (by decide) rfl (fun ls hl => ?_)
  refine lv_iconst (v := 0) hx hb dX4_worth_2 (by decide) ?_
  refine lv_istore (lv' := [(4, .int 0), (3, .int 0), (0, .ref h0), (1, .ref h1), (2, .int v5)]) hx hb dX4_worth_3 hl (by decide) rfl (fun ls hl => ?_)
  have hL52 : ∀ (n9 : Nat), ∀ (x46 : Int32) (x47 : Int32) (fn48 : Nat → Int32) (H : Heap) (locs : List Loc) (ls : Array Slot), 0 ≤ x46.toInt → x46.toInt ≤ 134217728 → 0 ≤ x47.toInt → x47.toInt ≤ 64 → (134217728 - x46.toInt).toNat < n9 → va_P (dC, dI) vwCl [(h0, .inr (4, [.ref r0, .ref r1, .ref h2, .ref h3, .int v0, .int v1])), (h1, .inl (g0, 256, .inl f2)), (h2, .inl (g1, 6, .inl f3)), (h3, .inl (g2, 64, .inl fn48))] H → va_D A [(h0, .inr (4, [.ref r0, .ref r1, .ref h2, .ref h3, .int v0, .int v1])), (h1, .inl (g0, 256, .inl f2)), (h2, .inl (g1, 6, .inl f3)), (h3, .inl (g2, 64, .inl fn48))] → va_S A s.heap H locs → lv_has ls 7 [(4, .int x46), (3, .int x47), (0, .ref h0), (1, .ref h1), (2, .int v5)] → W p l e ({ frames := 1, cells := 0, slots := 0, locals := 24 }) s m ([.ref h0, .ref h1, .int v5] : List Value).toArray below meth c H locs 0 0 Q (F0 m 5 ls []) := by
    intro n9
    induction n9 with
    | zero => intro x46 x47 fn48 H locs ls qa_x46 qb_x46 qa_x47 qb_x47 hm9 hP hD hS hl; exact absurd hm9 (Nat.not_lt_zero _)
    | succ n9 ih =>
      intro x46 x47 fn48 H locs ls qa_x46 qb_x46 qa_x47 qb_x47 hm9 hP hD hS hl
      refine lv_iload hx hb dX4_worth_5 (lv_at hl 0 rfl) ?_
      refine lv_iload_n hx hb dX4_worth_7 rfl (lv_at hl 4 rfl) ?_
      refine lv_icmp_ge (tgt := 215) hx hb dX4_worth_8 (by decide) (fun c53 => ?_) (fun c53 => ?_)
      · skip
        have fc53 : v5.toInt ≤ x46.toInt := Int32.le_iff_toInt_le.mp c53
        have r1c53 := Int32.toInt_lt x46
        have r2c53 := Int32.toInt_lt v5
        have r3c53 := Int32.le_toInt x46
        have r4c53 := Int32.le_toInt v5
        refine lv_iconst (v := 0) hx hb dX4_worth_215 (by decide) ?_
        subst hQ
        have hP9 := hP.sub (ws' := [(h0, .inr (4, [.ref r0, .ref r1, .ref h2, .ref h3, .int v0, .int v1])), (h1, .inl (g0, 256, .inl f2)), (h2, .inl (g1, 6, .inl f3)), (h3, .inl (g2, 64, .inl fn48))]) [0, 1, 2, 3] rfl
        have hD9 := hD.sub (ws' := [(h0, .inr (4, [.ref r0, .ref r1, .ref h2, .ref h3, .int v0, .int v1])), (h1, .inl (g0, 256, .inl f2)), (h2, .inl (g1, 6, .inl f3)), (h3, .inl (g2, 64, .inl fn48))]) [0, 1, 2, 3] (by decide) rfl
        have hK9 := hK.sub (tys' := []) [] rfl
        exact W.iret (v := 0) hx hb hr (fun t ht hW => ⟨⟨0, (), rfl, trivial, fn48, by rw [ht]; exact hP9, va_K.moved hW.alike hK9, hD9⟩, hS.F ht⟩) hS.2.2 dX4_worth_216
      · skip
        have fc53 : ¬ (v5.toInt ≤ x46.toInt) := fun h9 => c53 (Int32.le_iff_toInt_le.mpr h9)
        have r1c53 := Int32.toInt_lt x46
        have r2c53 := Int32.toInt_lt v5
        have r3c53 := Int32.le_toInt x46
        have r4c53 := Int32.le_toInt v5
        refine lv_iload hx hb dX4_worth_11 (lv_at hl 0 rfl) ?_
        refine lv_aload_n hx hb dX4_worth_13 rfl (lv_at hl 3 rfl) ?_
        refine va_alen (v := 256) hx hb hK hP 1 0 rfl rfl (by rfl) dX4_worth_14 ?_
        refine lv_icmp_ge (tgt := 215) hx hb dX4_worth_15 (by decide) (fun c54 => ?_) (fun c54 => ?_)
        · skip
          have fc54 : 256 ≤ x46.toInt := Int32.le_iff_toInt_le.mp c54
          refine lv_iconst (v := 0) hx hb dX4_worth_215 (by decide) ?_
          subst hQ
          have hP9 := hP.sub (ws' := [(h0, .inr (4, [.ref r0, .ref r1, .ref h2, .ref h3, .int v0, .int v1])), (h1, .inl (g0, 256, .inl f2)), (h2, .inl (g1, 6, .inl f3)), (h3, .inl (g2, 64, .inl fn48))]) [0, 1, 2, 3] rfl
          have hD9 := hD.sub (ws' := [(h0, .inr (4, [.ref r0, .ref r1, .ref h2, .ref h3, .int v0, .int v1])), (h1, .inl (g0, 256, .inl f2)), (h2, .inl (g1, 6, .inl f3)), (h3, .inl (g2, 64, .inl fn48))]) [0, 1, 2, 3] (by decide) rfl
          have hK9 := hK.sub (tys' := []) [] rfl
          exact W.iret (v := 0) hx hb hr (fun t ht hW => ⟨⟨0, (), rfl, trivial, fn48, by rw [ht]; exact hP9, va_K.moved hW.alike hK9, hD9⟩, hS.F ht⟩) hS.2.2 dX4_worth_216
        · skip
          have fc54 : ¬ (256 ≤ x46.toInt) := fun h9 => c54 (Int32.le_iff_toInt_le.mpr h9)
          refine lv_aload_n hx hb dX4_worth_18 rfl (lv_at hl 3 rfl) ?_
          refine lv_iload hx hb dX4_worth_19 (lv_at hl 0 rfl) ?_
          refine va_iald hx hb hK hP 1 0 rfl rfl (vp_in_iff.mpr ⟨by omega, by omega⟩) dX4_worth_21 ?_
          refine lv_topi (fun t55 et55 => ?_)
          refine lv_bipush (v := 16) hx hb dX4_worth_22 (by decide) ?_
          refine lv_irem hx hb dX4_worth_24 (by decide) ?_
          refine lv_topi (fun t56 et56 => ?_)
          obtain ⟨gat56, gbt56, gct56, gdt56⟩ := pv_rm16 et56 (by decide)
          refine lv_istore (lv' := [(5, .int t56), (4, .int x46), (3, .int x47), (0, .ref h0), (1, .ref h1), (2, .int v5)]) hx hb dX4_worth_25 hl (by decide) rfl (fun ls hl => ?_)
          refine lv_aload_n hx hb dX4_worth_27 rfl (lv_at hl 4 rfl) ?_
          refine lv_iload hx hb dX4_worth_28 (lv_at hl 1 rfl) ?_
          refine va_iald hx hb hK hP 1 0 rfl rfl (vp_in_iff.mpr ⟨by omega, by omega⟩) dX4_worth_30 ?_
          refine lv_topi (fun t57 et57 => ?_)
          refine lv_bipush (v := 16) hx hb dX4_worth_31 (by decide) ?_
          refine lv_idiv hx hb dX4_worth_33 (by decide) ?_
          refine lv_topi (fun t58 et58 => ?_)
          obtain ⟨gat58, gbt58⟩ := pv_dv16 et58 (by decide)
          refine lv_istore (lv' := [(6, .int t58), (5, .int t56), (4, .int x46), (3, .int x47), (0, .ref h0), (1, .ref h1), (2, .int v5)]) hx hb dX4_worth_34 hl (by decide) rfl (fun ls hl => ?_)
          refine lv_iload hx hb dX4_worth_36 (lv_at hl 1 rfl) ?_
          refine lv_if_eq (tgt := 47) hx hb dX4_worth_38 (by decide) (fun c59 => ?_) (fun c59 => ?_)
          · skip
            have fc59 : t56.toInt = 0 := congrArg Int32.toInt c59
            refine lv_iload_n hx hb dX4_worth_47 rfl (lv_at hl 3 rfl) ?_
            refine lv_bipush (v := 64) hx hb dX4_worth_48 (by decide) ?_
            refine lv_icmp_lt (tgt := 55) hx hb dX4_worth_50 (by decide) (fun c60 => ?_) (fun c60 => ?_)
            · skip
              have fc60 : x47.toInt < 64 := Int32.lt_iff_toInt_lt.mp c60
              refine lv_aload_n hx hb dX4_worth_55 rfl (lv_at hl 4 rfl) ?_
              refine va_get (D := (dC, dI)) (ci := 4) (v := .ref h3) (C := RX4) (T := TX4) (N := 6) hx hb hts (fun _ h => List.mem_cons_of_mem _ (List.mem_append_right _ h)) hown hK hP 0 rfl rfl 3 (by decide) (hts (.fieldLink RX4 25 "LeftArguments$Laws" "pile" "[I") (List.mem_cons_of_mem _ (List.mem_append_left _ (List.mem_of_getElem? (i := 0) rfl)))) (fun _ h9 => h9) rfl dX4_worth_56 ?_
              refine lv_iload_n hx hb dX4_worth_59 rfl (lv_at hl 3 rfl) ?_
              refine lv_iload hx hb dX4_worth_60 (lv_at hl 1 rfl) ?_
              refine lv_if_ne (tgt := 70) hx hb dX4_worth_62 (by decide) (fun c61 => by exfalso; have fc61 : ¬ (t56.toInt = 0) := fun h9 => c61 (Int32.toInt_inj.mp h9); omega) (fun _ => ?_)
              refine lv_iload hx hb dX4_worth_65 (lv_at hl 0 rfl) ?_
              refine lv_goto (tgt := 76) hx hb dX4_worth_67 (by decide) ?_
              refine va_iast hx hb hK hP hD hS 3 2 rfl rfl (vp_in_iff.mpr ⟨by omega, by omega⟩) dX4_worth_76 (fun H locs hP hD hS => ?_)
              obtain ⟨fn62, efn62⟩ : ∃ g : Nat → Int32, g = upd fn48 (Int32.toNatClampNeg x47) t58 := ⟨_, rfl⟩
              rw [← efn62] at hP hD
              have hP : va_P (dC, dI) vwCl [(h0, .inr (4, [.ref r0, .ref r1, .ref h2, .ref h3, .int v0, .int v1])), (h1, .inl (g0, 256, .inl f2)), (h2, .inl (g1, 6, .inl f3)), (h3, .inl (g2, 64, .inl fn62))] H := hP
              have hD : va_D A [(h0, .inr (4, [.ref r0, .ref r1, .ref h2, .ref h3, .int v0, .int v1])), (h1, .inl (g0, 256, .inl f2)), (h2, .inl (g1, 6, .inl f3)), (h3, .inl (g2, 64, .inl fn62))] := hD
              obtain ⟨t63, et63⟩ : ∃ y : Int32, y = x47 + 1 := ⟨_, rfl⟩
              have gt63 : t63.toInt = x47.toInt + (1) := pv_add (a := x47.toInt) (b := (1)) et63 rfl (by decide) (by omega) (by omega)
              refine lv_iinc (v := t63) (lv' := [(3, .int t63), (6, .int t58), (5, .int t56), (4, .int x46), (0, .ref h0), (1, .ref h1), (2, .int v5)]) hx hb dX4_worth_77 hl (k := 3) rfl (by rw [et63]; rfl) (by decide) rfl (fun ls hl => ?_)
              refine lv_goto (tgt := 209) hx hb dX4_worth_80 (by decide) ?_
              obtain ⟨t64, et64⟩ : ∃ y : Int32, y = x46 + 1 := ⟨_, rfl⟩
              have gt64 : t64.toInt = x46.toInt + (1) := pv_add (a := x46.toInt) (b := (1)) et64 rfl (by decide) (by omega) (by omega)
              refine lv_iinc (v := t64) (lv' := [(4, .int t64), (3, .int t63), (6, .int t58), (5, .int t56), (0, .ref h0), (1, .ref h1), (2, .int v5)]) hx hb dX4_worth_209 hl (k := 3) rfl (by rw [et64]; rfl) (by decide) rfl (fun ls hl => ?_)
              refine lv_goto (tgt := 5) hx hb dX4_worth_212 (by decide) ?_
              exact ih t64 t63 fn62 H locs ls (by first | omega | decide) (by first | omega | decide) (by first | omega | decide) (by first | omega | decide) (by first | omega | (simp only [Int.toNat] at *; omega)) hP hD hS (lv_sub hl [0, 1, 4, 5, 6] rfl)
            · skip
              have fc60 : ¬ (x47.toInt < 64) := fun h9 => c60 (Int32.lt_iff_toInt_lt.mpr h9)
              refine lv_iconst (v := 0) hx hb dX4_worth_53 (by decide) ?_
              subst hQ
              have hP9 := hP.sub (ws' := [(h0, .inr (4, [.ref r0, .ref r1, .ref h2, .ref h3, .int v0, .int v1])), (h1, .inl (g0, 256, .inl f2)), (h2, .inl (g1, 6, .inl f3)), (h3, .inl (g2, 64, .inl fn48))]) [0, 1, 2, 3] rfl
              have hD9 := hD.sub (ws' := [(h0, .inr (4, [.ref r0, .ref r1, .ref h2, .ref h3, .int v0, .int v1])), (h1, .inl (g0, 256, .inl f2)), (h2, .inl (g1, 6, .inl f3)), (h3, .inl (g2, 64, .inl fn48))]) [0, 1, 2, 3] (by decide) rfl
              have hK9 := hK.sub (tys' := []) [] rfl
              exact W.iret (v := 0) hx hb hr (fun t ht hW => ⟨⟨0, (), rfl, trivial, fn48, by rw [ht]; exact hP9, va_K.moved hW.alike hK9, hD9⟩, hS.F ht⟩) hS.2.2 dX4_worth_54
          · skip
            have fc59 : ¬ (t56.toInt = 0) := fun h9 => c59 (Int32.toInt_inj.mp h9)
            refine lv_iload hx hb dX4_worth_41 (lv_at hl 1 rfl) ?_
            refine lv_iconst (v := 1) hx hb dX4_worth_43 (by decide) ?_
            refine lv_icmp_ne (tgt := 83) hx hb dX4_worth_44 (by decide) (fun c65 => ?_) (fun c65 => ?_)
            · skip
              have fc65 : ¬ (t56.toInt = 1) := fun h9 => c65 (Int32.toInt_inj.mp h9)
              refine lv_iload_n hx hb dX4_worth_83 rfl (lv_at hl 3 rfl) ?_
              refine lv_iconst (v := 1) hx hb dX4_worth_84 (by decide) ?_
              refine lv_icmp_ge (tgt := 90) hx hb dX4_worth_85 (by decide) (fun c66 => ?_) (fun c66 => ?_)
              · skip
                have fc66 : 1 ≤ x47.toInt := Int32.le_iff_toInt_le.mp c66
                refine lv_iload hx hb dX4_worth_90 (lv_at hl 1 rfl) ?_
                refine lv_bipush (v := 13) hx hb dX4_worth_92 (by decide) ?_
                refine lv_icmp_ne (tgt := 106) hx hb dX4_worth_94 (by decide) (fun c67 => ?_) (fun c67 => ?_)
                · skip
                  have fc67 : ¬ (t56.toInt = 13) := fun h9 => c67 (Int32.toInt_inj.mp h9)
                  refine lv_iload hx hb dX4_worth_106 (lv_at hl 1 rfl) ?_
                  refine lv_bipush (v := 9) hx hb dX4_worth_108 (by decide) ?_
                  have hJ71 : ∀ (x68 : Int32) (x69 : Int32) (fn70 : Nat → Int32) (H : Heap) (locs : List Loc) (ls : Array Slot), 0 ≤ x68.toInt → x68.toInt ≤ 134217727 → x46.toInt ≤ x68.toInt → 0 ≤ x69.toInt → x69.toInt ≤ 64 → va_P (dC, dI) vwCl [(h0, .inr (4, [.ref r0, .ref r1, .ref h2, .ref h3, .int v0, .int v1])), (h1, .inl (g0, 256, .inl f2)), (h2, .inl (g1, 6, .inl f3)), (h3, .inl (g2, 64, .inl fn70))] H → va_D A [(h0, .inr (4, [.ref r0, .ref r1, .ref h2, .ref h3, .int v0, .int v1])), (h1, .inl (g0, 256, .inl f2)), (h2, .inl (g1, 6, .inl f3)), (h3, .inl (g2, 64, .inl fn70))] → va_S A s.heap H locs → lv_has ls 7 [(6, .int t58), (5, .int t56), (4, .int x68), (3, .int x69), (0, .ref h0), (1, .ref h1), (2, .int v5)] → W p l e ({ frames := 1, cells := 0, slots := 0, locals := 24 }) s m ([.ref h0, .ref h1, .int v5] : List Value).toArray below meth c H locs 0 0 Q (F0 m 209 ls []) := by
                    intro x68 x69 fn70 H locs ls qa_x68 qb_x68 qr_x68 qa_x69 qb_x69 hP hD hS hl
                    obtain ⟨t72, et72⟩ : ∃ y : Int32, y = x68 + 1 := ⟨_, rfl⟩
                    have gt72 : t72.toInt = x68.toInt + (1) := pv_add (a := x68.toInt) (b := (1)) et72 rfl (by decide) (by omega) (by omega)
                    refine lv_iinc (v := t72) (lv' := [(4, .int t72), (6, .int t58), (5, .int t56), (3, .int x69), (0, .ref h0), (1, .ref h1), (2, .int v5)]) hx hb dX4_worth_209 hl (k := 2) rfl (by rw [et72]; rfl) (by decide) rfl (fun ls hl => ?_)
                    refine lv_goto (tgt := 5) hx hb dX4_worth_212 (by decide) ?_
                    exact ih t72 x69 fn70 H locs ls (by first | omega | decide) (by first | omega | decide) (by first | omega | decide) (by first | omega | decide) (by first | omega | (simp only [Int.toNat] at *; omega)) hP hD hS (lv_sub hl [0, 3, 4, 5, 6] rfl)
                  refine lv_icmp_ne (tgt := 134) hx hb dX4_worth_110 (by decide) (fun c73 => ?_) (fun c73 => ?_)
                  · skip
                    have fc73 : ¬ (t56.toInt = 9) := fun h9 => c73 (Int32.toInt_inj.mp h9)
                    refine lv_iload hx hb dX4_worth_134 (lv_at hl 1 rfl) ?_
                    refine lv_bipush (v := 12) hx hb dX4_worth_136 (by decide) ?_
                    refine lv_icmp_ne (tgt := 167) hx hb dX4_worth_138 (by decide) (fun c74 => ?_) (fun c74 => ?_)
                    · skip
                      have fc74 : ¬ (t56.toInt = 12) := fun h9 => c74 (Int32.toInt_inj.mp h9)
                      refine lv_iload_n hx hb dX4_worth_167 rfl (lv_at hl 3 rfl) ?_
                      refine lv_iconst (v := 1) hx hb dX4_worth_168 (by decide) ?_
                      refine lv_icmp_le (tgt := 209) hx hb dX4_worth_169 (by decide) (fun c75 => ?_) (fun c75 => ?_)
                      · skip
                        have fc75 : x47.toInt ≤ 1 := Int32.le_iff_toInt_le.mp c75
                        exact hJ71 x46 x47 fn48 H locs ls (by first | omega | decide) (by first | omega | decide) (by first | omega | decide) (by first | omega | decide) (by first | omega | decide) hP hD hS (lv_sub hl [0, 1, 2, 3, 4, 5, 6] rfl)
                      · skip
                        have fc75 : ¬ (x47.toInt ≤ 1) := fun h9 => c75 (Int32.le_iff_toInt_le.mpr h9)
                        obtain ⟨t76, et76⟩ : ∃ y : Int32, y = x47 + (-1) := ⟨_, rfl⟩
                        have gt76 : t76.toInt = x47.toInt + (-1) := pv_add (a := x47.toInt) (b := (-1)) et76 rfl (by decide) (by omega) (by omega)
                        refine lv_iinc (v := t76) (lv' := [(3, .int t76), (6, .int t58), (5, .int t56), (4, .int x46), (0, .ref h0), (1, .ref h1), (2, .int v5)]) hx hb dX4_worth_172 hl (k := 3) rfl (by rw [et76]; rfl) (by decide) rfl (fun ls hl => ?_)
                        refine lv_aload_n hx hb dX4_worth_175 rfl (lv_at hl 4 rfl) ?_
                        refine va_get (D := (dC, dI)) (ci := 4) (v := .ref h3) (C := RX4) (T := TX4) (N := 6) hx hb hts (fun _ h => List.mem_cons_of_mem _ (List.mem_append_right _ h)) hown hK hP 0 rfl rfl 3 (by decide) (hts (.fieldLink RX4 25 "LeftArguments$Laws" "pile" "[I") (List.mem_cons_of_mem _ (List.mem_append_left _ (List.mem_of_getElem? (i := 0) rfl)))) (fun _ h9 => h9) rfl dX4_worth_176 ?_
                        refine lv_iload_n hx hb dX4_worth_179 rfl (lv_at hl 0 rfl) ?_
                        refine lv_iconst (v := 1) hx hb dX4_worth_180 (by decide) ?_
                        refine lv_isub hx hb dX4_worth_181 ?_
                        refine lv_topi (fun t77 et77 => ?_)
                        have gt77 : t77.toInt = t76.toInt - 1 := pv_sub (a := t76.toInt) (b := 1) et77 rfl (by decide) (by omega) (by omega)
                        refine lv_iload hx hb dX4_worth_182 (lv_at hl 2 rfl) ?_
                        refine lv_aload_n hx hb dX4_worth_184 rfl (lv_at hl 4 rfl) ?_
                        refine va_get (D := (dC, dI)) (ci := 4) (v := .ref h3) (C := RX4) (T := TX4) (N := 6) hx hb hts (fun _ h => List.mem_cons_of_mem _ (List.mem_append_right _ h)) hown hK hP 0 rfl rfl 3 (by decide) (hts (.fieldLink RX4 25 "LeftArguments$Laws" "pile" "[I") (List.mem_cons_of_mem _ (List.mem_append_left _ (List.mem_of_getElem? (i := 0) rfl)))) (fun _ h9 => h9) rfl dX4_worth_185 ?_
                        refine lv_iload_n hx hb dX4_worth_188 rfl (lv_at hl 0 rfl) ?_
                        refine lv_iconst (v := 1) hx hb dX4_worth_189 (by decide) ?_
                        refine lv_isub hx hb dX4_worth_190 ?_
                        refine lv_topi (fun t78 et78 => ?_)
                        have gt78 : t78.toInt = t76.toInt - 1 := pv_sub (a := t76.toInt) (b := 1) et78 rfl (by decide) (by omega) (by omega)
                        refine va_iald hx hb hK hP 3 2 rfl rfl (vp_in_iff.mpr ⟨by omega, by omega⟩) dX4_worth_191 ?_
                        refine lv_topi (fun t79 et79 => ?_)
                        obtain ⟨y80, ey80⟩ : ∃ z : Int64, z = (t79 : Int32).toInt64 := ⟨_, rfl⟩
                        refine lv_i2l (v := y80) hx hb dX4_worth_192 (by rw [ey80]) ?_
                        refine lv_aload_n hx hb dX4_worth_193 rfl (lv_at hl 4 rfl) ?_
                        refine va_get (D := (dC, dI)) (ci := 4) (v := .ref h3) (C := RX4) (T := TX4) (N := 6) hx hb hts (fun _ h => List.mem_cons_of_mem _ (List.mem_append_right _ h)) hown hK hP 0 rfl rfl 3 (by decide) (hts (.fieldLink RX4 25 "LeftArguments$Laws" "pile" "[I") (List.mem_cons_of_mem _ (List.mem_append_left _ (List.mem_of_getElem? (i := 0) rfl)))) (fun _ h9 => h9) rfl dX4_worth_194 ?_
                        refine lv_iload_n hx hb dX4_worth_197 rfl (lv_at hl 0 rfl) ?_
                        refine va_iald hx hb hK hP 3 2 rfl rfl (vp_in_iff.mpr ⟨by omega, by omega⟩) dX4_worth_198 ?_
                        refine lv_topi (fun t81 et81 => ?_)
                        obtain ⟨y82, ey82⟩ : ∃ z : Int64, z = (t81 : Int32).toInt64 := ⟨_, rfl⟩
                        refine lv_i2l (v := y82) hx hb dX4_worth_199 (by rw [ey82]) ?_
                        have hPc := hP.sub (ws' := []) [] rfl
                        have hDc := hD.sub (ws' := []) [] (by decide) rfl
                        have hKc := hK.sub (tys' := []) [] rfl
                        have hFc := va_free (wc := []) hD hS hA [] rfl
                        refine va_calll (va_runS (As := [.int t56, .long y80, .long y82]) (rest := [.int t77, .ref h3]) ⟨hx, hb, hml, hown, hts⟩ (k_X4_joined l dC dI t56 y80 y82  H.size) (va_cwS 3 hts g_X4_worth_0 rfl rfl rfl (by decide +kernel) ⟨Nat.le_of_ble_eq_true rfl, Nat.le_of_ble_eq_true rfl⟩) ⟨fun a U g mk q => by obtain ⟨q0, q1, qP, qK, qD⟩ := q; exact ⟨q0, q1, qP, va_K.moved (u := U) (U := U.calling g mk a) (Vm.Alike.refl U.vm) qK, qD⟩, fun U hU hW => ⟨rfl, by rw [hU], by rw [hU]; exact hPc, va_K.moved hW.alike hKc, hDc.weaken (fun _ _ _ _ => trivial)⟩⟩ rfl rfl hl.1 rfl (lv_room (Nat.le_of_ble_eq_true rfl)) dX4_worth_200 ⟨Nat.le_of_ble_eq_true rfl, Nat.le_of_ble_eq_true rfl⟩) hS (fun q _ h => hFc q h) hFc (fun ra83 u t H1 locs ht hvm hwra83 hB hz1 hk1 hS => ?_)
                        obtain ⟨hP1, hK1, hD1⟩ := hB
                        rw [ht] at hP1
                        obtain ⟨hP, hD⟩ := va_join (wr := [(h0, .inr (4, [.ref r0, .ref r1, .ref h2, .ref h3, .int v0, .int v1])), (h1, .inl (g0, 256, .inl f2)), (h2, .inl (g1, 6, .inl f3)), (h3, .inl (g2, 64, .inl fn48))]) (w1 := []) hP hD [] [0, 1, 2, 3] rfl rfl (by decide) (by decide) hk1 hFc hP1 hD1
                        generalize H1 = H at hP hS ⊢
                        have hP : va_P (dC, dI) vwCl [(h0, .inr (4, [.ref r0, .ref r1, .ref h2, .ref h3, .int v0, .int v1])), (h1, .inl (g0, 256, .inl f2)), (h2, .inl (g1, 6, .inl f3)), (h3, .inl (g2, 64, .inl fn48))] H := hP
                        have hD : va_D A [(h0, .inr (4, [.ref r0, .ref r1, .ref h2, .ref h3, .int v0, .int v1])), (h1, .inl (g0, 256, .inl f2)), (h2, .inl (g1, 6, .inl f3)), (h3, .inl (g2, 64, .inl fn48))] := hD
                        refine lv_ldc (v := 1000000) hx hb hown (hts (.constant RX4 73 (1000000)) (List.mem_cons_of_mem _ (List.mem_append_left _ (List.mem_of_getElem? (i := 5) rfl)))) dX4_worth_203 ?_
                        have hPc := hP.sub (ws' := []) [] rfl
                        have hDc := hD.sub (ws' := []) [] (by decide) rfl
                        have hKc := hK.sub (tys' := []) [] rfl
                        have hFc := va_free (wc := []) hD hS hA [] rfl
                        refine va_calli (va_runS (As := [.long ra83, .int 1000000]) (rest := [.int t77, .ref h3]) ⟨hx, hb, hml, hown, hts⟩ (k_X4_held l dC dI ra83 1000000  H.size) (va_cwS 2 hts g_X4_worth_1 rfl rfl rfl (by decide +kernel) ⟨Nat.le_of_ble_eq_true rfl, Nat.le_of_ble_eq_true rfl⟩) ⟨fun a U g mk q => by obtain ⟨q0, q1, qP, qK, qD⟩ := q; exact ⟨q0, q1, qP, va_K.moved (u := U) (U := U.calling g mk a) (Vm.Alike.refl U.vm) qK, qD⟩, fun U hU hW => ⟨rfl, by rw [hU], by rw [hU]; exact hPc, va_K.moved hW.alike hKc, hDc.weaken (fun _ _ _ _ => trivial)⟩⟩ rfl rfl hl.1 rfl (lv_room (Nat.le_of_ble_eq_true rfl)) dX4_worth_205 ⟨Nat.le_of_ble_eq_true rfl, Nat.le_of_ble_eq_true rfl⟩) hS (fun q _ h => hFc q h) hFc (fun ra84 u t H1 locs ht hvm hwra84 hB hz1 hk1 hS => ?_)
                        obtain ⟨hP1, hK1, hD1⟩ := hB
                        rw [ht] at hP1
                        obtain ⟨hP, hD⟩ := va_join (wr := [(h0, .inr (4, [.ref r0, .ref r1, .ref h2, .ref h3, .int v0, .int v1])), (h1, .inl (g0, 256, .inl f2)), (h2, .inl (g1, 6, .inl f3)), (h3, .inl (g2, 64, .inl fn48))]) (w1 := []) hP hD [] [0, 1, 2, 3] rfl rfl (by decide) (by decide) hk1 hFc hP1 hD1
                        generalize H1 = H at hP hS ⊢
                        have hP : va_P (dC, dI) vwCl [(h0, .inr (4, [.ref r0, .ref r1, .ref h2, .ref h3, .int v0, .int v1])), (h1, .inl (g0, 256, .inl f2)), (h2, .inl (g1, 6, .inl f3)), (h3, .inl (g2, 64, .inl fn48))] H := hP
                        have hD : va_D A [(h0, .inr (4, [.ref r0, .ref r1, .ref h2, .ref h3, .int v0, .int v1])), (h1, .inl (g0, 256, .inl f2)), (h2, .inl (g1, 6, .inl f3)), (h3, .inl (g2, 64, .inl fn48))] := hD
                        refine va_iast hx hb hK hP hD hS 3 2 rfl rfl (vp_in_iff.mpr ⟨by omega, by omega⟩) dX4_worth_208 (fun H locs hP hD hS => ?_)
                        obtain ⟨fn85, efn85⟩ : ∃ g : Nat → Int32, g = upd fn48 (Int32.toNatClampNeg t77) ra84 := ⟨_, rfl⟩
                        rw [← efn85] at hP hD
                        have hP : va_P (dC, dI) vwCl [(h0, .inr (4, [.ref r0, .ref r1, .ref h2, .ref h3, .int v0, .int v1])), (h1, .inl (g0, 256, .inl f2)), (h2, .inl (g1, 6, .inl f3)), (h3, .inl (g2, 64, .inl fn85))] H := hP
                        have hD : va_D A [(h0, .inr (4, [.ref r0, .ref r1, .ref h2, .ref h3, .int v0, .int v1])), (h1, .inl (g0, 256, .inl f2)), (h2, .inl (g1, 6, .inl f3)), (h3, .inl (g2, 64, .inl fn85))] := hD
                        exact hJ71 x46 t76 fn85 H locs ls (by first | omega | decide) (by first | omega | decide) (by first | omega | decide) (by first | omega | decide) (by first | omega | decide) hP hD hS (lv_sub hl [1, 2, 3, 0, 4, 5, 6] rfl)
                    · skip
                      have fc74 : t56.toInt = 12 := congrArg Int32.toInt c74
                      obtain ⟨t86, et86⟩ : ∃ y : Int32, y = x47 + (-1) := ⟨_, rfl⟩
                      have gt86 : t86.toInt = x47.toInt + (-1) := pv_add (a := x47.toInt) (b := (-1)) et86 rfl (by decide) (by omega) (by omega)
                      refine lv_iinc (v := t86) (lv' := [(3, .int t86), (6, .int t58), (5, .int t56), (4, .int x46), (0, .ref h0), (1, .ref h1), (2, .int v5)]) hx hb dX4_worth_141 hl (k := 3) rfl (by rw [et86]; rfl) (by decide) rfl (fun ls hl => ?_)
                      refine lv_aload_n hx hb dX4_worth_144 rfl (lv_at hl 4 rfl) ?_
                      refine va_get (D := (dC, dI)) (ci := 4) (v := .ref h3) (C := RX4) (T := TX4) (N := 6) hx hb hts (fun _ h => List.mem_cons_of_mem _ (List.mem_append_right _ h)) hown hK hP 0 rfl rfl 3 (by decide) (hts (.fieldLink RX4 25 "LeftArguments$Laws" "pile" "[I") (List.mem_cons_of_mem _ (List.mem_append_left _ (List.mem_of_getElem? (i := 0) rfl)))) (fun _ h9 => h9) rfl dX4_worth_145 ?_
                      refine lv_iload_n hx hb dX4_worth_148 rfl (lv_at hl 0 rfl) ?_
                      refine va_iald hx hb hK hP 3 2 rfl rfl (vp_in_iff.mpr ⟨by omega, by omega⟩) dX4_worth_149 ?_
                      refine lv_topi (fun t87 et87 => ?_)
                      refine lv_if_ne (tgt := 209) hx hb dX4_worth_150 (by decide) (fun c88 => ?_) (fun c88 => ?_)
                      · skip
                        have fc88 : ¬ (t87.toInt = 0) := fun h9 => c88 (Int32.toInt_inj.mp h9)
                        exact hJ71 x46 t86 fn48 H locs ls (by first | omega | decide) (by first | omega | decide) (by first | omega | decide) (by first | omega | decide) (by first | omega | decide) hP hD hS (lv_sub hl [1, 2, 3, 0, 4, 5, 6] rfl)
                      · skip
                        have fc88 : t87.toInt = 0 := congrArg Int32.toInt c88
                        refine lv_iload hx hb dX4_worth_153 (lv_at hl 3 rfl) ?_
                        refine lv_iload hx hb dX4_worth_155 (lv_at hl 1 rfl) ?_
                        refine lv_iconst (v := 1) hx hb dX4_worth_157 (by decide) ?_
                        refine lv_isub hx hb dX4_worth_158 ?_
                        refine lv_topi (fun t89 et89 => ?_)
                        have gt89 : t89.toInt = t58.toInt - 1 := pv_sub (a := t58.toInt) (b := 1) et89 rfl (by decide) (by omega) (by omega)
                        refine va_mmax hx hb (by rw [hml]; exact hl.1.symm) hown (hts (.methodLink RX4 64 Lib.Math.max.name) (List.mem_cons_of_mem _ (List.mem_append_left _ (List.mem_of_getElem? (i := 9) rfl)))) (hts (.static Lib.Math.max.name) (List.mem_cons_of_mem _ (List.mem_append_left _ (List.mem_of_getElem? (i := 10) rfl)))) (hts (.initialized "java/lang/Math") (List.mem_cons_of_mem _ (List.mem_append_left _ (List.mem_of_getElem? (i := 11) rfl)))) (hts (.code Lib.Math.max.name Lib.Math.max.code 2 (some .int)) (List.mem_cons_of_mem _ (List.mem_append_left _ (List.mem_of_getElem? (i := 12) rfl)))) (Nat.le_of_ble_eq_true rfl) (Nat.le_of_ble_eq_true rfl) (Nat.le_of_ble_eq_true rfl) (Nat.le_of_ble_eq_true rfl) dX4_worth_159 ?_
                        refine lv_topi (fun t90 et90 => ?_)
                        obtain ⟨gat90, gbt90, gct90⟩ := pv_max (a := x46.toInt) (b := t89.toInt) et90 rfl rfl
                        refine lv_istore (lv' := [(4, .int t90), (3, .int t86), (6, .int t58), (5, .int t56), (0, .ref h0), (1, .ref h1), (2, .int v5)]) hx hb dX4_worth_162 hl (by decide) rfl (fun ls hl => ?_)
                        refine lv_goto (tgt := 209) hx hb dX4_worth_164 (by decide) ?_
                        exact hJ71 t90 t86 fn48 H locs ls (by first | omega | decide) (by first | omega | decide) (by first | omega | decide) (by first | omega | decide) (by first | omega | decide) hP hD hS (lv_sub hl [2, 3, 0, 1, 4, 5, 6] rfl)
                  · skip
                    have fc73 : t56.toInt = 9 := congrArg Int32.toInt c73
                    refine lv_aload_n hx hb dX4_worth_113 rfl (lv_at hl 4 rfl) ?_
                    refine va_get (D := (dC, dI)) (ci := 4) (v := .ref h3) (C := RX4) (T := TX4) (N := 6) hx hb hts (fun _ h => List.mem_cons_of_mem _ (List.mem_append_right _ h)) hown hK hP 0 rfl rfl 3 (by decide) (hts (.fieldLink RX4 25 "LeftArguments$Laws" "pile" "[I") (List.mem_cons_of_mem _ (List.mem_append_left _ (List.mem_of_getElem? (i := 0) rfl)))) (fun _ h9 => h9) rfl dX4_worth_114 ?_
                    refine lv_iload_n hx hb dX4_worth_117 rfl (lv_at hl 3 rfl) ?_
                    refine lv_iconst (v := 1) hx hb dX4_worth_118 (by decide) ?_
                    refine lv_isub hx hb dX4_worth_119 ?_
                    refine lv_topi (fun t91 et91 => ?_)
                    have gt91 : t91.toInt = x47.toInt - 1 := pv_sub (a := x47.toInt) (b := 1) et91 rfl (by decide) (by omega) (by omega)
                    refine lv_iconst (v := 1) hx hb dX4_worth_120 (by decide) ?_
                    refine lv_aload_n hx hb dX4_worth_121 rfl (lv_at hl 4 rfl) ?_
                    refine va_get (D := (dC, dI)) (ci := 4) (v := .ref h3) (C := RX4) (T := TX4) (N := 6) hx hb hts (fun _ h => List.mem_cons_of_mem _ (List.mem_append_right _ h)) hown hK hP 0 rfl rfl 3 (by decide) (hts (.fieldLink RX4 25 "LeftArguments$Laws" "pile" "[I") (List.mem_cons_of_mem _ (List.mem_append_left _ (List.mem_of_getElem? (i := 0) rfl)))) (fun _ h9 => h9) rfl dX4_worth_122 ?_
                    refine lv_iload_n hx hb dX4_worth_125 rfl (lv_at hl 3 rfl) ?_
                    refine lv_iconst (v := 1) hx hb dX4_worth_126 (by decide) ?_
                    refine lv_isub hx hb dX4_worth_127 ?_
                    refine lv_topi (fun t92 et92 => ?_)
                    have gt92 : t92.toInt = x47.toInt - 1 := pv_sub (a := x47.toInt) (b := 1) et92 rfl (by decide) (by omega) (by omega)
                    refine va_iald hx hb hK hP 3 2 rfl rfl (vp_in_iff.mpr ⟨by omega, by omega⟩) dX4_worth_128 ?_
                    refine lv_topi (fun t93 et93 => ?_)
                    refine lv_isub hx hb dX4_worth_129 ?_
                    refine lv_topi (fun t94 et94 => ?_)
                    refine va_iast hx hb hK hP hD hS 3 2 rfl rfl (vp_in_iff.mpr ⟨by omega, by omega⟩) dX4_worth_130 (fun H locs hP hD hS => ?_)
                    obtain ⟨fn95, efn95⟩ : ∃ g : Nat → Int32, g = upd fn48 (Int32.toNatClampNeg t91) t94 := ⟨_, rfl⟩
                    rw [← efn95] at hP hD
                    have hP : va_P (dC, dI) vwCl [(h0, .inr (4, [.ref r0, .ref r1, .ref h2, .ref h3, .int v0, .int v1])), (h1, .inl (g0, 256, .inl f2)), (h2, .inl (g1, 6, .inl f3)), (h3, .inl (g2, 64, .inl fn95))] H := hP
                    have hD : va_D A [(h0, .inr (4, [.ref r0, .ref r1, .ref h2, .ref h3, .int v0, .int v1])), (h1, .inl (g0, 256, .inl f2)), (h2, .inl (g1, 6, .inl f3)), (h3, .inl (g2, 64, .inl fn95))] := hD
                    refine lv_goto (tgt := 209) hx hb dX4_worth_131 (by decide) ?_
                    exact hJ71 x46 x47 fn95 H locs ls (by first | omega | decide) (by first | omega | decide) (by first | omega | decide) (by first | omega | decide) (by first | omega | decide) hP hD hS (lv_sub hl [0, 1, 2, 3, 4, 5, 6] rfl)
                · skip
                  have fc67 : t56.toInt = 13 := congrArg Int32.toInt c67
                  refine lv_aload_n hx hb dX4_worth_97 rfl (lv_at hl 4 rfl) ?_
                  refine va_get (D := (dC, dI)) (ci := 4) (v := .ref h3) (C := RX4) (T := TX4) (N := 6) hx hb hts (fun _ h => List.mem_cons_of_mem _ (List.mem_append_right _ h)) hown hK hP 0 rfl rfl 3 (by decide) (hts (.fieldLink RX4 25 "LeftArguments$Laws" "pile" "[I") (List.mem_cons_of_mem _ (List.mem_append_left _ (List.mem_of_getElem? (i := 0) rfl)))) (fun _ h9 => h9) rfl dX4_worth_98 ?_
                  refine lv_iload_n hx hb dX4_worth_101 rfl (lv_at hl 3 rfl) ?_
                  refine lv_iconst (v := 1) hx hb dX4_worth_102 (by decide) ?_
                  refine lv_isub hx hb dX4_worth_103 ?_
                  refine lv_topi (fun t96 et96 => ?_)
                  have gt96 : t96.toInt = x47.toInt - 1 := pv_sub (a := x47.toInt) (b := 1) et96 rfl (by decide) (by omega) (by omega)
                  refine va_iald hx hb hK hP 3 2 rfl rfl (vp_in_iff.mpr ⟨by omega, by omega⟩) dX4_worth_104 ?_
                  refine lv_topi (fun t97 et97 => ?_)
                  subst hQ
                  have hP9 := hP.sub (ws' := [(h0, .inr (4, [.ref r0, .ref r1, .ref h2, .ref h3, .int v0, .int v1])), (h1, .inl (g0, 256, .inl f2)), (h2, .inl (g1, 6, .inl f3)), (h3, .inl (g2, 64, .inl fn48))]) [0, 1, 2, 3] rfl
                  have hD9 := hD.sub (ws' := [(h0, .inr (4, [.ref r0, .ref r1, .ref h2, .ref h3, .int v0, .int v1])), (h1, .inl (g0, 256, .inl f2)), (h2, .inl (g1, 6, .inl f3)), (h3, .inl (g2, 64, .inl fn48))]) [0, 1, 2, 3] (by decide) rfl
                  have hK9 := hK.sub (tys' := []) [] rfl
                  exact W.iret (v := t97) hx hb hr (fun t ht hW => ⟨⟨t97, (), rfl, trivial, fn48, by rw [ht]; exact hP9, va_K.moved hW.alike hK9, hD9⟩, hS.F ht⟩) hS.2.2 dX4_worth_105
              · skip
                have fc66 : ¬ (1 ≤ x47.toInt) := fun h9 => c66 (Int32.le_iff_toInt_le.mpr h9)
                refine lv_iconst (v := 0) hx hb dX4_worth_88 (by decide) ?_
                subst hQ
                have hP9 := hP.sub (ws' := [(h0, .inr (4, [.ref r0, .ref r1, .ref h2, .ref h3, .int v0, .int v1])), (h1, .inl (g0, 256, .inl f2)), (h2, .inl (g1, 6, .inl f3)), (h3, .inl (g2, 64, .inl fn48))]) [0, 1, 2, 3] rfl
                have hD9 := hD.sub (ws' := [(h0, .inr (4, [.ref r0, .ref r1, .ref h2, .ref h3, .int v0, .int v1])), (h1, .inl (g0, 256, .inl f2)), (h2, .inl (g1, 6, .inl f3)), (h3, .inl (g2, 64, .inl fn48))]) [0, 1, 2, 3] (by decide) rfl
                have hK9 := hK.sub (tys' := []) [] rfl
                exact W.iret (v := 0) hx hb hr (fun t ht hW => ⟨⟨0, (), rfl, trivial, fn48, by rw [ht]; exact hP9, va_K.moved hW.alike hK9, hD9⟩, hS.F ht⟩) hS.2.2 dX4_worth_89
            · skip
              have fc65 : t56.toInt = 1 := congrArg Int32.toInt c65
              refine lv_iload_n hx hb dX4_worth_47 rfl (lv_at hl 3 rfl) ?_
              refine lv_bipush (v := 64) hx hb dX4_worth_48 (by decide) ?_
              refine lv_icmp_lt (tgt := 55) hx hb dX4_worth_50 (by decide) (fun c98 => ?_) (fun c98 => ?_)
              · skip
                have fc98 : x47.toInt < 64 := Int32.lt_iff_toInt_lt.mp c98
                refine lv_aload_n hx hb dX4_worth_55 rfl (lv_at hl 4 rfl) ?_
                refine va_get (D := (dC, dI)) (ci := 4) (v := .ref h3) (C := RX4) (T := TX4) (N := 6) hx hb hts (fun _ h => List.mem_cons_of_mem _ (List.mem_append_right _ h)) hown hK hP 0 rfl rfl 3 (by decide) (hts (.fieldLink RX4 25 "LeftArguments$Laws" "pile" "[I") (List.mem_cons_of_mem _ (List.mem_append_left _ (List.mem_of_getElem? (i := 0) rfl)))) (fun _ h9 => h9) rfl dX4_worth_56 ?_
                refine lv_iload_n hx hb dX4_worth_59 rfl (lv_at hl 3 rfl) ?_
                refine lv_iload hx hb dX4_worth_60 (lv_at hl 1 rfl) ?_
                refine lv_if_ne (tgt := 70) hx hb dX4_worth_62 (by decide) (fun _ => ?_) (fun c99 => by exfalso; have fc99 : t56.toInt = 0 := congrArg Int32.toInt c99; omega)
                refine lv_aload_n hx hb dX4_worth_70 rfl (lv_at hl 4 rfl) ?_
                refine lv_iload hx hb dX4_worth_71 (lv_at hl 0 rfl) ?_
                have hPc := hP.sub (ws' := [(h0, .inr (4, [.ref r0, .ref r1, .ref h2, .ref h3, .int v0, .int v1])), (h2, .inl (g1, 6, .inl f3))]) [0, 2] rfl
                have hDc := hD.sub (ws' := [(h0, .inr (4, [.ref r0, .ref r1, .ref h2, .ref h3, .int v0, .int v1])), (h2, .inl (g1, 6, .inl f3))]) [0, 2] (by decide) rfl
                have hKc := hK.sub (tys' := [(g1, .int)]) [1] rfl
                have hFc := va_free (wc := [(h0, .inr (4, [.ref r0, .ref r1, .ref h2, .ref h3, .int v0, .int v1])), (h2, .inl (g1, 6, .inl f3))]) hD hS hA [0, 2] rfl
                refine va_calli (va_runV (As := [.int t58]) (rest := [.int x47, .ref h3]) ⟨hx, hb, hml, hown, hts⟩ (k_X4_letterOf l dC dI h0 h2 r0 r1 h3 v0 v1 g1 f3 t58 ⟨by first | omega | decide, by first | omega | decide⟩ H.size) (cwV 1 hts g_X4_worth_2 rfl rfl rfl (by decide +kernel) ⟨Nat.le_of_ble_eq_true rfl, Nat.le_of_ble_eq_true rfl⟩) ⟨fun a U g mk q => by obtain ⟨q0, q1, qP, qK, qD⟩ := q; exact ⟨q0, q1, qP, va_K.moved (u := U) (U := U.calling g mk a) (Vm.Alike.refl U.vm) qK, qD⟩, va_recv hKc hPc (ci := 4) (q0 := 0) rfl rfl, fun U hU hW => ⟨rfl, by rw [hU], by rw [hU]; exact hPc, va_K.moved hW.alike hKc, hDc.weaken (fun _ _ _ _ => trivial)⟩⟩ rfl rfl hl.1 rfl (lv_room (Nat.le_of_ble_eq_true rfl)) dX4_worth_73 ⟨Nat.le_of_ble_eq_true rfl, Nat.le_of_ble_eq_true rfl⟩) hS (fun q _ h => hFc q h) hFc (fun ra100 u t H1 locs ht hvm hwra100 hB hz1 hk1 hS => ?_)
                obtain ⟨hP1, hK1, hD1⟩ := hB
                rw [ht] at hP1
                obtain ⟨hP, hD⟩ := va_join (wr := [(h1, .inl (g0, 256, .inl f2)), (h3, .inl (g2, 64, .inl fn48))]) (w1 := [(h0, .inr (4, [.ref r0, .ref r1, .ref h2, .ref h3, .int v0, .int v1])), (h2, .inl (g1, 6, .inl f3))]) hP hD [0, 2] [1, 3] rfl rfl (by decide) (by decide) hk1 hFc hP1 hD1
                generalize H1 = H at hP hS ⊢
                have hP := hP.sub (ws' := [(h0, .inr (4, [.ref r0, .ref r1, .ref h2, .ref h3, .int v0, .int v1])), (h1, .inl (g0, 256, .inl f2)), (h2, .inl (g1, 6, .inl f3)), (h3, .inl (g2, 64, .inl fn48))]) [2, 0, 3, 1] rfl
                have hD := hD.sub (ws' := [(h0, .inr (4, [.ref r0, .ref r1, .ref h2, .ref h3, .int v0, .int v1])), (h1, .inl (g0, 256, .inl f2)), (h2, .inl (g1, 6, .inl f3)), (h3, .inl (g2, 64, .inl fn48))]) [2, 0, 3, 1] (by decide) rfl
                have hP : va_P (dC, dI) vwCl [(h0, .inr (4, [.ref r0, .ref r1, .ref h2, .ref h3, .int v0, .int v1])), (h1, .inl (g0, 256, .inl f2)), (h2, .inl (g1, 6, .inl f3)), (h3, .inl (g2, 64, .inl fn48))] H := hP
                have hD : va_D A [(h0, .inr (4, [.ref r0, .ref r1, .ref h2, .ref h3, .int v0, .int v1])), (h1, .inl (g0, 256, .inl f2)), (h2, .inl (g1, 6, .inl f3)), (h3, .inl (g2, 64, .inl fn48))] := hD
                refine va_iast hx hb hK hP hD hS 3 2 rfl rfl (vp_in_iff.mpr ⟨by omega, by omega⟩) dX4_worth_76 (fun H locs hP hD hS => ?_)
                obtain ⟨fn101, efn101⟩ : ∃ g : Nat → Int32, g = upd fn48 (Int32.toNatClampNeg x47) ra100 := ⟨_, rfl⟩
                rw [← efn101] at hP hD
                have hP : va_P (dC, dI) vwCl [(h0, .inr (4, [.ref r0, .ref r1, .ref h2, .ref h3, .int v0, .int v1])), (h1, .inl (g0, 256, .inl f2)), (h2, .inl (g1, 6, .inl f3)), (h3, .inl (g2, 64, .inl fn101))] H := hP
                have hD : va_D A [(h0, .inr (4, [.ref r0, .ref r1, .ref h2, .ref h3, .int v0, .int v1])), (h1, .inl (g0, 256, .inl f2)), (h2, .inl (g1, 6, .inl f3)), (h3, .inl (g2, 64, .inl fn101))] := hD
                obtain ⟨t102, et102⟩ : ∃ y : Int32, y = x47 + 1 := ⟨_, rfl⟩
                have gt102 : t102.toInt = x47.toInt + (1) := pv_add (a := x47.toInt) (b := (1)) et102 rfl (by decide) (by omega) (by omega)
                refine lv_iinc (v := t102) (lv' := [(3, .int t102), (6, .int t58), (5, .int t56), (4, .int x46), (0, .ref h0), (1, .ref h1), (2, .int v5)]) hx hb dX4_worth_77 hl (k := 3) rfl (by rw [et102]; rfl) (by decide) rfl (fun ls hl => ?_)
                refine lv_goto (tgt := 209) hx hb dX4_worth_80 (by decide) ?_
                obtain ⟨t103, et103⟩ : ∃ y : Int32, y = x46 + 1 := ⟨_, rfl⟩
                have gt103 : t103.toInt = x46.toInt + (1) := pv_add (a := x46.toInt) (b := (1)) et103 rfl (by decide) (by omega) (by omega)
                refine lv_iinc (v := t103) (lv' := [(4, .int t103), (3, .int t102), (6, .int t58), (5, .int t56), (0, .ref h0), (1, .ref h1), (2, .int v5)]) hx hb dX4_worth_209 hl (k := 3) rfl (by rw [et103]; rfl) (by decide) rfl (fun ls hl => ?_)
                refine lv_goto (tgt := 5) hx hb dX4_worth_212 (by decide) ?_
                exact ih t103 t102 fn101 H locs ls (by first | omega | decide) (by first | omega | decide) (by first | omega | decide) (by first | omega | decide) (by first | omega | (simp only [Int.toNat] at *; omega)) hP hD hS (lv_sub hl [0, 1, 4, 5, 6] rfl)
              · skip
                have fc98 : ¬ (x47.toInt < 64) := fun h9 => c98 (Int32.lt_iff_toInt_lt.mpr h9)
                refine lv_iconst (v := 0) hx hb dX4_worth_53 (by decide) ?_
                subst hQ
                have hP9 := hP.sub (ws' := [(h0, .inr (4, [.ref r0, .ref r1, .ref h2, .ref h3, .int v0, .int v1])), (h1, .inl (g0, 256, .inl f2)), (h2, .inl (g1, 6, .inl f3)), (h3, .inl (g2, 64, .inl fn48))]) [0, 1, 2, 3] rfl
                have hD9 := hD.sub (ws' := [(h0, .inr (4, [.ref r0, .ref r1, .ref h2, .ref h3, .int v0, .int v1])), (h1, .inl (g0, 256, .inl f2)), (h2, .inl (g1, 6, .inl f3)), (h3, .inl (g2, 64, .inl fn48))]) [0, 1, 2, 3] (by decide) rfl
                have hK9 := hK.sub (tys' := []) [] rfl
                exact W.iret (v := 0) hx hb hr (fun t ht hW => ⟨⟨0, (), rfl, trivial, fn48, by rw [ht]; exact hP9, va_K.moved hW.alike hK9, hD9⟩, hS.F ht⟩) hS.2.2 dX4_worth_54
  exact hL52 _ 0 0 f4 H locs ls (by first | omega | decide) (by first | omega | decide) (by first | omega | decide) (by first | omega | decide) (Nat.lt_succ_self _) hP hD hS (lv_sub hl [0, 1, 2, 3, 4] rfl)
