def q_X11_rule : List Cond := .code yX11_rule cX11_rule 2 (some .int) :: (([.fieldLink RX11 42 "LeftArguments" "office" "LLeftArguments$Office;", .code yX5_stands cX5_stands 1 (some .boolean), .fieldLink RX5 24 "LeftArguments$Office" "stands" "Z", .initialized RX5, .instanceMethod yX5_stands, .selects RX5 yX5_stands yX5_stands, .methodLink RX11 159 yX5_stands, .code yX5_ruleOf cX5_ruleOf 2 (some .int), .fieldLink RX5 11 "LeftArguments$Office" "rules" "[I", .instanceMethod yX5_ruleOf, .selects RX5 yX5_ruleOf yX5_ruleOf, .methodLink RX11 166 yX5_ruleOf, .fieldLink RX11 49 "LeftArguments" "room" "LLeftArguments$Room;", .code yX7_coins cX7_coins 1 (some .int), .fieldLink RX7 11 "LeftArguments$Room" "cells" "[I", .initialized RX7, .instanceMethod yX7_coins, .selects RX7 yX7_coins yX7_coins, .methodLink RX11 163 yX7_coins] : List Cond) ++ wsX110 ++ wsX50 ++ wsX70)
set_option maxRecDepth 20000 in
theorem g_X11_rule_0 : GoodIn q_X11_rule (wsV RX11 159 RX5 yX5_stands q_X5_stands) := goodIn_app (goodIn_r _ [7, 5, 6, 4] (by decide +kernel) (by decide +kernel)) (goodIn_ca (goodIn_r (.code yX5_stands cX5_stands 1 (some .boolean) :: [.fieldLink RX5 24 "LeftArguments$Office" "stands" "Z"]) [2, 3] (by decide +kernel) (by decide +kernel)) (goodIn_sub (fun _ h => List.mem_cons_of_mem _ (List.mem_append_left _ (List.mem_append_right _ h))) gwX5))
set_option maxRecDepth 20000 in
theorem g_X11_rule_1 : GoodIn q_X11_rule (wsV RX11 166 RX5 yX5_ruleOf q_X5_ruleOf) := goodIn_app (goodIn_r _ [12, 10, 11, 4] (by decide +kernel) (by decide +kernel)) (goodIn_ca (goodIn_r (.code yX5_ruleOf cX5_ruleOf 2 (some .int) :: [.fieldLink RX5 11 "LeftArguments$Office" "rules" "[I"]) [8, 9] (by decide +kernel) (by decide +kernel)) (goodIn_sub (fun _ h => List.mem_cons_of_mem _ (List.mem_append_left _ (List.mem_append_right _ h))) gwX5))
set_option maxRecDepth 20000 in
theorem g_X11_rule_2 : GoodIn q_X11_rule (wsV RX11 163 RX7 yX7_coins q_X7_coins) := goodIn_app (goodIn_r _ [19, 17, 18, 16] (by decide +kernel) (by decide +kernel)) (goodIn_ca (goodIn_r (.code yX7_coins cX7_coins 1 (some .int) :: [.fieldLink RX7 11 "LeftArguments$Room" "cells" "[I"]) [14, 15] (by decide +kernel) (by decide +kernel)) (goodIn_sub (fun _ h => List.mem_cons_of_mem _ (List.mem_append_right _ h)) gwX7))
set_option maxHeartbeats 4000000 in
set_option maxRecDepth 100000 in
theorem k_X11_rule (l : Launch) (dC : Nat → ClassId) (dI : Nat → Nat → Nat) (h0 : Nat) (h1 : Nat) (h2 : Nat) (h3 : Nat) (h4 : Nat) (r0 : Nat) (r1 : Nat) (r2 : Nat) (r3 : Nat) (r4 : Nat) (r5 : Nat) (r6 : Nat) (r7 : Nat) (r8 : Nat) (r9 : Nat) (r10 : Nat) (r11 : Nat) (v0 : Int32) (v1 : Int32) (w2 : Int64) (r12 : Nat) (v3 : Int32) (v4 : Int32) (g0 : ClassId) (f5 : Nat → Int32) (r13 : Nat) (v6 : Int32) (v7 : Int32) (g1 : ClassId) (f8 : Nat → Int32) (v9 : Int32) (i_v0 : 0 ≤ v0.toInt ∧ v0.toInt ≤ 1) (i_v4 : 0 ≤ v4.toInt ∧ v4.toInt ≤ 1) (sz : Nat) : Met l yX11_rule q_X11_rule ({ frames := 1, cells := 0, slots := 0, locals := 21 }) (va_Pc [.ref h0, .int v9] (fun U => U.heap.size = sz ∧ va_P (dC, dI) vwCl [(h0, .inr (11, [.ref r0, .ref r1, .ref r2, .ref r3, .ref h1, .ref h3, .ref r4, .ref r5, .ref r6, .ref r7, .ref r8, .ref r9, .ref r10, .ref r11, .int v0, .int v1, .long w2])), (h1, .inr (5, [.ref h2, .ref r12, .int v3, .int v4])), (h2, .inl (g0, 4, .inl f5)), (h3, .inr (7, [.ref h4, .ref r13, .int v6, .int v7])), (h4, .inl (g1, 58, .inl f8))] U.heap ∧ va_K (dC, dI) vwCl [(g0, .int), (g1, .int)] U ∧ va_D (fun _ => True) [(h0, .inr (11, [.ref r0, .ref r1, .ref r2, .ref r3, .ref h1, .ref h3, .ref r4, .ref r5, .ref r6, .ref r7, .ref r8, .ref r9, .ref r10, .ref r11, .int v0, .int v1, .long w2])), (h1, .inr (5, [.ref h2, .ref r12, .int v3, .int v4])), (h2, .inl (g0, 4, .inl f5)), (h3, .inr (7, [.ref h4, .ref r13, .int v6, .int v7])), (h4, .inl (g1, 58, .inl f8))])) (va_Qi (fun (r : Int32) (_ : Unit) => True) (fun (_ : Unit) (t : State) => va_P (dC, dI) vwCl [(h0, .inr (11, [.ref r0, .ref r1, .ref r2, .ref r3, .ref h1, .ref h3, .ref r4, .ref r5, .ref r6, .ref r7, .ref r8, .ref r9, .ref r10, .ref r11, .int v0, .int v1, .long w2])), (h1, .inr (5, [.ref h2, .ref r12, .int v3, .int v4])), (h2, .inl (g0, 4, .inl f5)), (h3, .inr (7, [.ref h4, .ref r13, .int v6, .int v7])), (h4, .inl (g1, 58, .inl f8))] t.heap ∧ va_K (dC, dI) vwCl [] t ∧ va_D (va_A [(h0, .inr (11, [.ref r0, .ref r1, .ref r2, .ref r3, .ref h1, .ref h3, .ref r4, .ref r5, .ref r6, .ref r7, .ref r8, .ref r9, .ref r10, .ref r11, .int v0, .int v1, .long w2])), (h1, .inr (5, [.ref h2, .ref r12, .int v3, .int v4])), (h2, .inl (g0, 4, .inl f5)), (h3, .inr (7, [.ref h4, .ref r13, .int v6, .int v7])), (h4, .inl (g1, 58, .inl f8))] sz) [(h0, .inr (11, [.ref r0, .ref r1, .ref r2, .ref r3, .ref h1, .ref h3, .ref r4, .ref r5, .ref r6, .ref r7, .ref r8, .ref r9, .ref r10, .ref r11, .int v0, .int v1, .long w2])), (h1, .inr (5, [.ref h2, .ref r12, .int v3, .int v4])), (h2, .inl (g0, 4, .inl f5)), (h3, .inr (7, [.ref h4, .ref r13, .int v6, .int v7])), (h4, .inl (g1, 58, .inl f8))]) (va_A [(h0, .inr (11, [.ref r0, .ref r1, .ref r2, .ref r3, .ref h1, .ref h3, .ref r4, .ref r5, .ref r6, .ref r7, .ref r8, .ref r9, .ref r10, .ref r11, .int v0, .int v1, .long w2])), (h1, .inr (5, [.ref h2, .ref r12, .int v3, .int v4])), (h2, .inl (g0, 4, .inl f5)), (h3, .inr (7, [.ref h4, .ref r13, .int v6, .int v7])), (h4, .inl (g1, 58, .inl f8))] sz)) 0 0 (va_A [(h0, .inr (11, [.ref r0, .ref r1, .ref r2, .ref r3, .ref h1, .ref h3, .ref r4, .ref r5, .ref r6, .ref r7, .ref r8, .ref r9, .ref r10, .ref r11, .int v0, .int v1, .long w2])), (h1, .inr (5, [.ref h2, .ref r12, .int v3, .int v4])), (h2, .inl (g0, 4, .inl f5)), (h3, .inr (7, [.ref h4, .ref r13, .int v6, .int v7])), (h4, .inl (g1, 58, .inl f8))] sz) := by
  refine Met.ofW (cc := cX11_rule) (maxL := 2) (ret := (some .int)) (by decide) rfl ?_
  intro p e s m args below meth c s₁ B hml hv
  obtain ⟨i_v0a, i_v0b⟩ := i_v0
  obtain ⟨i_v4a, i_v4b⟩ := i_v4
  obtain ⟨rfl, hsz, hP, hK, hD0⟩ := hv
  have hx := B.exec
  have hb := B.bytes
  have hr := B.returns
  have hts := atoms_spec (ws := q_X11_rule) B.pre
  have hown : s.vm.findClass RX11 = some m.cls := findClass_of_methodNamed B.named
  have hlocks := B.notSynchronized
  subst hsz
  have hD := hD0.self (sz := s.heap.size)
  generalize hAe : va_A [(h0, .inr (11, [.ref r0, .ref r1, .ref r2, .ref r3, .ref h1, .ref h3, .ref r4, .ref r5, .ref r6, .ref r7, .ref r8, .ref r9, .ref r10, .ref r11, .int v0, .int v1, .long w2])), (h1, .inr (5, [.ref h2, .ref r12, .int v3, .int v4])), (h2, .inl (g0, 4, .inl f5)), (h3, .inr (7, [.ref h4, .ref r13, .int v6, .int v7])), (h4, .inl (g1, 58, .inl f8))] s.heap.size = A at hD ⊢
  have hA : ∀ q : Nat, s.heap.size ≤ q → A q := fun q h => by rw [← hAe]; exact Or.inr h
  have hS : va_S A s.heap s.heap [] := va_S.rf
  generalize hQ : (MQ below _ _ s 0 0 A) = Q
  have hl := lv_entry ([.ref h0, .int v9]) (n := 2) (Nat.le_of_ble_eq_true rfl)
  rw [lg_entry_eq]
  generalize (lg_sl ([.ref h0, .int v9]) ++ List.replicate (2 - (lg_sl ([.ref h0, .int v9])).length) Slot.unset).toArray = ls at hl ⊢
  have hl : lv_has ls 2 [(0, .ref h0), (1, .int v9)] := hl
  obtain ⟨H, hH⟩ : ∃ H : Heap, H = s.heap := ⟨_, rfl⟩
  obtain ⟨locs, hlocs⟩ : ∃ y : List Loc, y = [] := ⟨_, rfl⟩
  have hS : va_S A s.heap H locs := by rw [hH, hlocs]; exact va_S.rf
  have hP : va_P (dC, dI) vwCl [(h0, .inr (11, [.ref r0, .ref r1, .ref r2, .ref r3, .ref h1, .ref h3, .ref r4, .ref r5, .ref r6, .ref r7, .ref r8, .ref r9, .ref r10, .ref r11, .int v0, .int v1, .long w2])), (h1, .inr (5, [.ref h2, .ref r12, .int v3, .int v4])), (h2, .inl (g0, 4, .inl f5)), (h3, .inr (7, [.ref h4, .ref r13, .int v6, .int v7])), (h4, .inl (g1, 58, .inl f8))] H := by rw [hH]; exact hP
  rw [← hH, ← hlocs]
  refine lv_aload_n hx hb dX11_rule_0 rfl (lv_at hl 0 rfl) ?_
  refine va_get (D := (dC, dI)) (ci := 11) (v := .ref h1) (C := RX11) (T := TX11) (N := 17) hx hb hts (fun _ h => List.mem_cons_of_mem _ (List.mem_append_left _ (List.mem_append_left _ (List.mem_append_right _ h)))) hown hK hP 0 rfl rfl 4 (by decide) (hts (.fieldLink RX11 42 "LeftArguments" "office" "LLeftArguments$Office;") (List.mem_cons_of_mem _ (List.mem_append_left _ (List.mem_append_left _ (List.mem_append_left _ (List.mem_of_getElem? (i := 0) rfl)))))) (fun _ h9 => h9) rfl dX11_rule_1 ?_
  have hPc := hP.sub (ws' := [(h1, .inr (5, [.ref h2, .ref r12, .int v3, .int v4]))]) [1] rfl
  have hDc := hD.sub (ws' := [(h1, .inr (5, [.ref h2, .ref r12, .int v3, .int v4]))]) [1] (by decide) rfl
  have hKc := hK.sub (tys' := []) [] rfl
  have hFc := va_free (wc := [(h1, .inr (5, [.ref h2, .ref r12, .int v3, .int v4]))]) hD hS hA [1] rfl
  refine va_calli (va_runV (As := []) (rest := []) ⟨hx, hb, hml, hown, hts⟩ (k_X5_stands l dC dI h1 h2 r12 v3 v4 ⟨by first | omega | decide, by first | omega | decide⟩ H.size) (cwV 0 hts g_X11_rule_0 rfl rfl rfl (by decide +kernel) ⟨Nat.le_of_ble_eq_true rfl, Nat.le_of_ble_eq_true rfl⟩) ⟨fun a U g mk q => by obtain ⟨q0, q1, qP, qK, qD⟩ := q; exact ⟨q0, q1, qP, va_K.moved (u := U) (U := U.calling g mk a) (Vm.Alike.refl U.vm) qK, qD⟩, va_recv hKc hPc (ci := 5) (q0 := 0) rfl rfl, fun U hU hW => ⟨rfl, by rw [hU], by rw [hU]; exact hPc, va_K.moved hW.alike hKc, hDc.weaken (fun _ _ _ _ => trivial)⟩⟩ rfl rfl hl.1 rfl (lv_room (Nat.le_of_ble_eq_true rfl)) dX11_rule_4 ⟨Nat.le_of_ble_eq_true rfl, Nat.le_of_ble_eq_true rfl⟩) hS (fun q _ h => hFc q h) hFc (fun ra1 u t H1 locs ht hvm hwra1 hB hz1 hk1 hS => ?_)
  obtain ⟨hP1, hK1, hD1⟩ := hB
  rw [ht] at hP1
  obtain ⟨hP, hD⟩ := va_join (wr := [(h0, .inr (11, [.ref r0, .ref r1, .ref r2, .ref r3, .ref h1, .ref h3, .ref r4, .ref r5, .ref r6, .ref r7, .ref r8, .ref r9, .ref r10, .ref r11, .int v0, .int v1, .long w2])), (h2, .inl (g0, 4, .inl f5)), (h3, .inr (7, [.ref h4, .ref r13, .int v6, .int v7])), (h4, .inl (g1, 58, .inl f8))]) (w1 := [(h1, .inr (5, [.ref h2, .ref r12, .int v3, .int v4]))]) hP hD [1] [0, 2, 3, 4] rfl rfl (by decide) (by decide) hk1 hFc hP1 hD1
  generalize H1 = H at hP hS ⊢
  have hP := hP.sub (ws' := [(h0, .inr (11, [.ref r0, .ref r1, .ref r2, .ref r3, .ref h1, .ref h3, .ref r4, .ref r5, .ref r6, .ref r7, .ref r8, .ref r9, .ref r10, .ref r11, .int v0, .int v1, .long w2])), (h1, .inr (5, [.ref h2, .ref r12, .int v3, .int v4])), (h2, .inl (g0, 4, .inl f5)), (h3, .inr (7, [.ref h4, .ref r13, .int v6, .int v7])), (h4, .inl (g1, 58, .inl f8))]) [0, 4, 1, 2, 3] rfl
  have hD := hD.sub (ws' := [(h0, .inr (11, [.ref r0, .ref r1, .ref r2, .ref r3, .ref h1, .ref h3, .ref r4, .ref r5, .ref r6, .ref r7, .ref r8, .ref r9, .ref r10, .ref r11, .int v0, .int v1, .long w2])), (h1, .inr (5, [.ref h2, .ref r12, .int v3, .int v4])), (h2, .inl (g0, 4, .inl f5)), (h3, .inr (7, [.ref h4, .ref r13, .int v6, .int v7])), (h4, .inl (g1, 58, .inl f8))]) [0, 4, 1, 2, 3] (by decide) rfl
  have hP : va_P (dC, dI) vwCl [(h0, .inr (11, [.ref r0, .ref r1, .ref r2, .ref r3, .ref h1, .ref h3, .ref r4, .ref r5, .ref r6, .ref r7, .ref r8, .ref r9, .ref r10, .ref r11, .int v0, .int v1, .long w2])), (h1, .inr (5, [.ref h2, .ref r12, .int v3, .int v4])), (h2, .inl (g0, 4, .inl f5)), (h3, .inr (7, [.ref h4, .ref r13, .int v6, .int v7])), (h4, .inl (g1, 58, .inl f8))] H := hP
  have hD : va_D A [(h0, .inr (11, [.ref r0, .ref r1, .ref r2, .ref r3, .ref h1, .ref h3, .ref r4, .ref r5, .ref r6, .ref r7, .ref r8, .ref r9, .ref r10, .ref r11, .int v0, .int v1, .long w2])), (h1, .inr (5, [.ref h2, .ref r12, .int v3, .int v4])), (h2, .inl (g0, 4, .inl f5)), (h3, .inr (7, [.ref h4, .ref r13, .int v6, .int v7])), (h4, .inl (g1, 58, .inl f8))] := hD
  obtain ⟨wa_ra1, wb_ra1⟩ := hwra1
  have wa_ra1 : 0 ≤ ra1.toInt := wa_ra1
  have wb_ra1 : ra1.toInt ≤ 1 := wb_ra1
  refine lv_if_ne (tgt := 12) hx hb dX11_rule_7 (by decide) (fun c2 => ?_) (fun c2 => ?_)
  · skip
    have fc2 : ¬ (ra1.toInt = 0) := fun h9 => c2 (Int32.toInt_inj.mp h9)
    refine lv_iload_n hx hb dX11_rule_12 rfl (lv_at hl 1 rfl) ?_
    refine lv_iconst (v := 3) hx hb dX11_rule_13 (by decide) ?_
    refine lv_icmp_ne (tgt := 25) hx hb dX11_rule_14 (by decide) (fun c3 => ?_) (fun c3 => ?_)
    · skip
      have fc3 : ¬ (v9.toInt = 3) := fun h9 => c3 (Int32.toInt_inj.mp h9)
      refine lv_iload_n hx hb dX11_rule_25 rfl (lv_at hl 1 rfl) ?_
      have hJ5 : ∀ (x4 : Int32) (H : Heap) (locs : List Loc) (ls : Array Slot), va_P (dC, dI) vwCl [(h0, .inr (11, [.ref r0, .ref r1, .ref r2, .ref r3, .ref h1, .ref h3, .ref r4, .ref r5, .ref r6, .ref r7, .ref r8, .ref r9, .ref r10, .ref r11, .int v0, .int v1, .long w2])), (h1, .inr (5, [.ref h2, .ref r12, .int v3, .int v4])), (h2, .inl (g0, 4, .inl f5)), (h3, .inr (7, [.ref h4, .ref r13, .int v6, .int v7])), (h4, .inl (g1, 58, .inl f8))] H → va_D A [(h0, .inr (11, [.ref r0, .ref r1, .ref r2, .ref r3, .ref h1, .ref h3, .ref r4, .ref r5, .ref r6, .ref r7, .ref r8, .ref r9, .ref r10, .ref r11, .int v0, .int v1, .long w2])), (h1, .inr (5, [.ref h2, .ref r12, .int v3, .int v4])), (h2, .inl (g0, 4, .inl f5)), (h3, .inr (7, [.ref h4, .ref r13, .int v6, .int v7])), (h4, .inl (g1, 58, .inl f8))] → va_S A s.heap H locs → lv_has ls 2 [(0, .ref h0), (1, .int v9)] → W p l e ({ frames := 1, cells := 0, slots := 0, locals := 21 }) s m ([.ref h0, .int v9] : List Value).toArray below meth c H locs 0 0 Q (F0 m 46 ls [.int x4]) := by
        intro x4 H locs ls hP hD hS hl
        subst hQ
        have hP9 := hP.sub (ws' := [(h0, .inr (11, [.ref r0, .ref r1, .ref r2, .ref r3, .ref h1, .ref h3, .ref r4, .ref r5, .ref r6, .ref r7, .ref r8, .ref r9, .ref r10, .ref r11, .int v0, .int v1, .long w2])), (h1, .inr (5, [.ref h2, .ref r12, .int v3, .int v4])), (h2, .inl (g0, 4, .inl f5)), (h3, .inr (7, [.ref h4, .ref r13, .int v6, .int v7])), (h4, .inl (g1, 58, .inl f8))]) [0, 1, 2, 3, 4] rfl
        have hD9 := hD.sub (ws' := [(h0, .inr (11, [.ref r0, .ref r1, .ref r2, .ref r3, .ref h1, .ref h3, .ref r4, .ref r5, .ref r6, .ref r7, .ref r8, .ref r9, .ref r10, .ref r11, .int v0, .int v1, .long w2])), (h1, .inr (5, [.ref h2, .ref r12, .int v3, .int v4])), (h2, .inl (g0, 4, .inl f5)), (h3, .inr (7, [.ref h4, .ref r13, .int v6, .int v7])), (h4, .inl (g1, 58, .inl f8))]) [0, 1, 2, 3, 4] (by decide) rfl
        have hK9 := hK.sub (tys' := []) [] rfl
        exact W.iret (v := x4) hx hb hr (fun t ht hW => ⟨⟨x4, (), rfl, trivial, by rw [ht]; exact hP9, va_K.moved hW.alike hK9, hD9⟩, hS.F ht⟩) hS.2.2 dX11_rule_46
      refine lv_if_lt (tgt := 34) hx hb dX11_rule_26 (by decide) (fun c6 => ?_) (fun c6 => ?_)
      · skip
        have fc6 : v9.toInt < 0 := Int32.lt_iff_toInt_lt.mp c6
        refine lv_iconst (v := (-1)) hx hb dX11_rule_34 (by decide) ?_
        refine lv_goto (tgt := 46) hx hb dX11_rule_35 (by decide) ?_
        exact hJ5 ((-1)) H locs ls hP hD hS (lv_sub hl [0, 1] rfl)
      · skip
        have fc6 : ¬ (v9.toInt < 0) := fun h9 => c6 (Int32.lt_iff_toInt_lt.mpr h9)
        refine lv_iload_n hx hb dX11_rule_29 rfl (lv_at hl 1 rfl) ?_
        refine lv_iconst (v := 3) hx hb dX11_rule_30 (by decide) ?_
        refine lv_icmp_le (tgt := 38) hx hb dX11_rule_31 (by decide) (fun c7 => ?_) (fun c7 => ?_)
        · skip
          have fc7 : v9.toInt ≤ 3 := Int32.le_iff_toInt_le.mp c7
          refine lv_aload_n hx hb dX11_rule_38 rfl (lv_at hl 0 rfl) ?_
          refine va_get (D := (dC, dI)) (ci := 11) (v := .ref h1) (C := RX11) (T := TX11) (N := 17) hx hb hts (fun _ h => List.mem_cons_of_mem _ (List.mem_append_left _ (List.mem_append_left _ (List.mem_append_right _ h)))) hown hK hP 0 rfl rfl 4 (by decide) (hts (.fieldLink RX11 42 "LeftArguments" "office" "LLeftArguments$Office;") (List.mem_cons_of_mem _ (List.mem_append_left _ (List.mem_append_left _ (List.mem_append_left _ (List.mem_of_getElem? (i := 0) rfl)))))) (fun _ h9 => h9) rfl dX11_rule_39 ?_
          refine lv_iload_n hx hb dX11_rule_42 rfl (lv_at hl 1 rfl) ?_
          have hPc := hP.sub (ws' := [(h1, .inr (5, [.ref h2, .ref r12, .int v3, .int v4])), (h2, .inl (g0, 4, .inl f5))]) [1, 2] rfl
          have hDc := hD.sub (ws' := [(h1, .inr (5, [.ref h2, .ref r12, .int v3, .int v4])), (h2, .inl (g0, 4, .inl f5))]) [1, 2] (by decide) rfl
          have hKc := hK.sub (tys' := [(g0, .int)]) [0] rfl
          have hFc := va_free (wc := [(h1, .inr (5, [.ref h2, .ref r12, .int v3, .int v4])), (h2, .inl (g0, 4, .inl f5))]) hD hS hA [1, 2] rfl
          refine va_calli (va_runV (As := [.int v9]) (rest := []) ⟨hx, hb, hml, hown, hts⟩ (k_X5_ruleOf l dC dI h1 h2 r12 v3 v4 g0 f5 v9 ⟨by first | omega | decide, by first | omega | decide⟩ H.size) (cwV 1 hts g_X11_rule_1 rfl rfl rfl (by decide +kernel) ⟨Nat.le_of_ble_eq_true rfl, Nat.le_of_ble_eq_true rfl⟩) ⟨fun a U g mk q => by obtain ⟨q0, q1, qP, qK, qD⟩ := q; exact ⟨q0, q1, qP, va_K.moved (u := U) (U := U.calling g mk a) (Vm.Alike.refl U.vm) qK, qD⟩, va_recv hKc hPc (ci := 5) (q0 := 0) rfl rfl, fun U hU hW => ⟨rfl, by rw [hU], by rw [hU]; exact hPc, va_K.moved hW.alike hKc, hDc.weaken (fun _ _ _ _ => trivial)⟩⟩ rfl rfl hl.1 rfl (lv_room (Nat.le_of_ble_eq_true rfl)) dX11_rule_43 ⟨Nat.le_of_ble_eq_true rfl, Nat.le_of_ble_eq_true rfl⟩) hS (fun q _ h => hFc q h) hFc (fun ra8 u t H1 locs ht hvm hwra8 hB hz1 hk1 hS => ?_)
          obtain ⟨hP1, hK1, hD1⟩ := hB
          rw [ht] at hP1
          obtain ⟨hP, hD⟩ := va_join (wr := [(h0, .inr (11, [.ref r0, .ref r1, .ref r2, .ref r3, .ref h1, .ref h3, .ref r4, .ref r5, .ref r6, .ref r7, .ref r8, .ref r9, .ref r10, .ref r11, .int v0, .int v1, .long w2])), (h3, .inr (7, [.ref h4, .ref r13, .int v6, .int v7])), (h4, .inl (g1, 58, .inl f8))]) (w1 := [(h1, .inr (5, [.ref h2, .ref r12, .int v3, .int v4])), (h2, .inl (g0, 4, .inl f5))]) hP hD [1, 2] [0, 3, 4] rfl rfl (by decide) (by decide) hk1 hFc hP1 hD1
          generalize H1 = H at hP hS ⊢
          have hP := hP.sub (ws' := [(h0, .inr (11, [.ref r0, .ref r1, .ref r2, .ref r3, .ref h1, .ref h3, .ref r4, .ref r5, .ref r6, .ref r7, .ref r8, .ref r9, .ref r10, .ref r11, .int v0, .int v1, .long w2])), (h1, .inr (5, [.ref h2, .ref r12, .int v3, .int v4])), (h2, .inl (g0, 4, .inl f5)), (h3, .inr (7, [.ref h4, .ref r13, .int v6, .int v7])), (h4, .inl (g1, 58, .inl f8))]) [0, 3, 4, 1, 2] rfl
          have hD := hD.sub (ws' := [(h0, .inr (11, [.ref r0, .ref r1, .ref r2, .ref r3, .ref h1, .ref h3, .ref r4, .ref r5, .ref r6, .ref r7, .ref r8, .ref r9, .ref r10, .ref r11, .int v0, .int v1, .long w2])), (h1, .inr (5, [.ref h2, .ref r12, .int v3, .int v4])), (h2, .inl (g0, 4, .inl f5)), (h3, .inr (7, [.ref h4, .ref r13, .int v6, .int v7])), (h4, .inl (g1, 58, .inl f8))]) [0, 3, 4, 1, 2] (by decide) rfl
          have hP : va_P (dC, dI) vwCl [(h0, .inr (11, [.ref r0, .ref r1, .ref r2, .ref r3, .ref h1, .ref h3, .ref r4, .ref r5, .ref r6, .ref r7, .ref r8, .ref r9, .ref r10, .ref r11, .int v0, .int v1, .long w2])), (h1, .inr (5, [.ref h2, .ref r12, .int v3, .int v4])), (h2, .inl (g0, 4, .inl f5)), (h3, .inr (7, [.ref h4, .ref r13, .int v6, .int v7])), (h4, .inl (g1, 58, .inl f8))] H := hP
          have hD : va_D A [(h0, .inr (11, [.ref r0, .ref r1, .ref r2, .ref r3, .ref h1, .ref h3, .ref r4, .ref r5, .ref r6, .ref r7, .ref r8, .ref r9, .ref r10, .ref r11, .int v0, .int v1, .long w2])), (h1, .inr (5, [.ref h2, .ref r12, .int v3, .int v4])), (h2, .inl (g0, 4, .inl f5)), (h3, .inr (7, [.ref h4, .ref r13, .int v6, .int v7])), (h4, .inl (g1, 58, .inl f8))] := hD
          exact hJ5 ra8 H locs ls hP hD hS (lv_sub hl [0, 1] rfl)
        · skip
          have fc7 : ¬ (v9.toInt ≤ 3) := fun h9 => c7 (Int32.le_iff_toInt_le.mpr h9)
          refine lv_iconst (v := (-1)) hx hb dX11_rule_34 (by decide) ?_
          refine lv_goto (tgt := 46) hx hb dX11_rule_35 (by decide) ?_
          exact hJ5 ((-1)) H locs ls hP hD hS (lv_sub hl [0, 1] rfl)
    · skip
      have fc3 : v9.toInt = 3 := congrArg Int32.toInt c3
      refine lv_aload_n hx hb dX11_rule_17 rfl (lv_at hl 0 rfl) ?_
      refine va_get (D := (dC, dI)) (ci := 11) (v := .ref h3) (C := RX11) (T := TX11) (N := 17) hx hb hts (fun _ h => List.mem_cons_of_mem _ (List.mem_append_left _ (List.mem_append_left _ (List.mem_append_right _ h)))) hown hK hP 0 rfl rfl 5 (by decide) (hts (.fieldLink RX11 49 "LeftArguments" "room" "LLeftArguments$Room;") (List.mem_cons_of_mem _ (List.mem_append_left _ (List.mem_append_left _ (List.mem_append_left _ (List.mem_of_getElem? (i := 12) rfl)))))) (fun _ h9 => h9) rfl dX11_rule_18 ?_
      have hPc := hP.sub (ws' := [(h3, .inr (7, [.ref h4, .ref r13, .int v6, .int v7])), (h4, .inl (g1, 58, .inl f8))]) [3, 4] rfl
      have hDc := hD.sub (ws' := [(h3, .inr (7, [.ref h4, .ref r13, .int v6, .int v7])), (h4, .inl (g1, 58, .inl f8))]) [3, 4] (by decide) rfl
      have hKc := hK.sub (tys' := [(g1, .int)]) [1] rfl
      have hFc := va_free (wc := [(h3, .inr (7, [.ref h4, .ref r13, .int v6, .int v7])), (h4, .inl (g1, 58, .inl f8))]) hD hS hA [3, 4] rfl
      refine va_calli (va_runV (As := []) (rest := []) ⟨hx, hb, hml, hown, hts⟩ (k_X7_coins l dC dI h3 h4 r13 v6 v7 g1 f8  H.size) (cwV 0 hts g_X11_rule_2 rfl rfl rfl (by decide +kernel) ⟨Nat.le_of_ble_eq_true rfl, Nat.le_of_ble_eq_true rfl⟩) ⟨fun a U g mk q => by obtain ⟨q0, q1, qP, qK, qD⟩ := q; exact ⟨q0, q1, qP, va_K.moved (u := U) (U := U.calling g mk a) (Vm.Alike.refl U.vm) qK, qD⟩, va_recv hKc hPc (ci := 7) (q0 := 0) rfl rfl, fun U hU hW => ⟨rfl, by rw [hU], by rw [hU]; exact hPc, va_K.moved hW.alike hKc, hDc.weaken (fun _ _ _ _ => trivial)⟩⟩ rfl rfl hl.1 rfl (lv_room (Nat.le_of_ble_eq_true rfl)) dX11_rule_21 ⟨Nat.le_of_ble_eq_true rfl, Nat.le_of_ble_eq_true rfl⟩) hS (fun q _ h => hFc q h) hFc (fun ra9 u t H1 locs ht hvm hwra9 hB hz1 hk1 hS => ?_)
      obtain ⟨hP1, hK1, hD1⟩ := hB
      rw [ht] at hP1
      obtain ⟨hP, hD⟩ := va_join (wr := [(h0, .inr (11, [.ref r0, .ref r1, .ref r2, .ref r3, .ref h1, .ref h3, .ref r4, .ref r5, .ref r6, .ref r7, .ref r8, .ref r9, .ref r10, .ref r11, .int v0, .int v1, .long w2])), (h1, .inr (5, [.ref h2, .ref r12, .int v3, .int v4])), (h2, .inl (g0, 4, .inl f5))]) (w1 := [(h3, .inr (7, [.ref h4, .ref r13, .int v6, .int v7])), (h4, .inl (g1, 58, .inl f8))]) hP hD [3, 4] [0, 1, 2] rfl rfl (by decide) (by decide) hk1 hFc hP1 hD1
      generalize H1 = H at hP hS ⊢
      have hP : va_P (dC, dI) vwCl [(h0, .inr (11, [.ref r0, .ref r1, .ref r2, .ref r3, .ref h1, .ref h3, .ref r4, .ref r5, .ref r6, .ref r7, .ref r8, .ref r9, .ref r10, .ref r11, .int v0, .int v1, .long w2])), (h1, .inr (5, [.ref h2, .ref r12, .int v3, .int v4])), (h2, .inl (g0, 4, .inl f5)), (h3, .inr (7, [.ref h4, .ref r13, .int v6, .int v7])), (h4, .inl (g1, 58, .inl f8))] H := hP
      have hD : va_D A [(h0, .inr (11, [.ref r0, .ref r1, .ref r2, .ref r3, .ref h1, .ref h3, .ref r4, .ref r5, .ref r6, .ref r7, .ref r8, .ref r9, .ref r10, .ref r11, .int v0, .int v1, .long w2])), (h1, .inr (5, [.ref h2, .ref r12, .int v3, .int v4])), (h2, .inl (g0, 4, .inl f5)), (h3, .inr (7, [.ref h4, .ref r13, .int v6, .int v7])), (h4, .inl (g1, 58, .inl f8))] := hD
      subst hQ
      have hP9 := hP.sub (ws' := [(h0, .inr (11, [.ref r0, .ref r1, .ref r2, .ref r3, .ref h1, .ref h3, .ref r4, .ref r5, .ref r6, .ref r7, .ref r8, .ref r9, .ref r10, .ref r11, .int v0, .int v1, .long w2])), (h1, .inr (5, [.ref h2, .ref r12, .int v3, .int v4])), (h2, .inl (g0, 4, .inl f5)), (h3, .inr (7, [.ref h4, .ref r13, .int v6, .int v7])), (h4, .inl (g1, 58, .inl f8))]) [0, 1, 2, 3, 4] rfl
      have hD9 := hD.sub (ws' := [(h0, .inr (11, [.ref r0, .ref r1, .ref r2, .ref r3, .ref h1, .ref h3, .ref r4, .ref r5, .ref r6, .ref r7, .ref r8, .ref r9, .ref r10, .ref r11, .int v0, .int v1, .long w2])), (h1, .inr (5, [.ref h2, .ref r12, .int v3, .int v4])), (h2, .inl (g0, 4, .inl f5)), (h3, .inr (7, [.ref h4, .ref r13, .int v6, .int v7])), (h4, .inl (g1, 58, .inl f8))]) [0, 1, 2, 3, 4] (by decide) rfl
      have hK9 := hK.sub (tys' := []) [] rfl
      exact W.iret (v := ra9) hx hb hr (fun t ht hW => ⟨⟨ra9, (), rfl, trivial, by rw [ht]; exact hP9, va_K.moved hW.alike hK9, hD9⟩, hS.F ht⟩) hS.2.2 dX11_rule_24
  · skip
    have fc2 : ra1.toInt = 0 := congrArg Int32.toInt c2
    refine lv_iconst (v := (-1)) hx hb dX11_rule_10 (by decide) ?_
    subst hQ
    have hP9 := hP.sub (ws' := [(h0, .inr (11, [.ref r0, .ref r1, .ref r2, .ref r3, .ref h1, .ref h3, .ref r4, .ref r5, .ref r6, .ref r7, .ref r8, .ref r9, .ref r10, .ref r11, .int v0, .int v1, .long w2])), (h1, .inr (5, [.ref h2, .ref r12, .int v3, .int v4])), (h2, .inl (g0, 4, .inl f5)), (h3, .inr (7, [.ref h4, .ref r13, .int v6, .int v7])), (h4, .inl (g1, 58, .inl f8))]) [0, 1, 2, 3, 4] rfl
    have hD9 := hD.sub (ws' := [(h0, .inr (11, [.ref r0, .ref r1, .ref r2, .ref r3, .ref h1, .ref h3, .ref r4, .ref r5, .ref r6, .ref r7, .ref r8, .ref r9, .ref r10, .ref r11, .int v0, .int v1, .long w2])), (h1, .inr (5, [.ref h2, .ref r12, .int v3, .int v4])), (h2, .inl (g0, 4, .inl f5)), (h3, .inr (7, [.ref h4, .ref r13, .int v6, .int v7])), (h4, .inl (g1, 58, .inl f8))]) [0, 1, 2, 3, 4] (by decide) rfl
    have hK9 := hK.sub (tys' := []) [] rfl
    exact W.iret (v := (-1)) hx hb hr (fun t ht hW => ⟨⟨(-1), (), rfl, trivial, by rw [ht]; exact hP9, va_K.moved hW.alike hK9, hD9⟩, hS.F ht⟩) hS.2.2 dX11_rule_11
def q_X9_add : List Cond := .code yX9_add cX9_add 5 (some .int) :: (([.fieldLink RX9 35 "LeftArguments$Sightings" "number" "I", .fieldLink RX9 18 "LeftArguments$Sightings" "whose" "[I", .fieldLink RX9 22 "LeftArguments$Sightings" "behind" "[I", .fieldLink RX9 25 "LeftArguments$Sightings" "marks" "[I", .fieldLink RX9 28 "LeftArguments$Sightings" "reached" "[Z"] : List Cond) ++ wsX90)
set_option maxHeartbeats 4000000 in
set_option maxRecDepth 100000 in
theorem k_X9_add (l : Launch) (dC : Nat → ClassId) (dI : Nat → Nat → Nat) (h0 : Nat) (h1 : Nat) (h2 : Nat) (h3 : Nat) (h4 : Nat) (r0 : Nat) (r1 : Nat) (r2 : Nat) (r3 : Nat) (v0 : Int32) (g0 : ClassId) (f1 : Nat → Int32) (g1 : ClassId) (f2 : Nat → Int32) (g2 : ClassId) (f3 : Nat → Int32) (g3 : ClassId) (f4 : Nat → Int32) (v5 : Int32) (v6 : Int32) (v7 : Int32) (v8 : Int32) (i_v0 : 0 ≤ v0.toInt ∧ v0.toInt ≤ 10) (i_v6 : 1 ≤ v6.toInt ∧ v6.toInt ≤ 9) (i_v8 : 0 ≤ v8.toInt ∧ v8.toInt ≤ 1) (ia_f2 : ∀ j, 0 ≤ (f2 j).toInt ∧ (f2 j).toInt ≤ 9) (sz : Nat) : Met l yX9_add q_X9_add ({ frames := 0, cells := 0, slots := 0, locals := 0 }) (va_Pc [.ref h0, .int v5, .int v6, .int v7, .int v8] (fun U => U.heap.size = sz ∧ va_P (dC, dI) vwCl [(h0, .inr (9, [.ref r0, .ref r1, .ref r2, .ref h1, .ref h2, .ref h3, .ref h4, .ref r3, .int v0])), (h1, .inl (g0, 10, .inl f1)), (h2, .inl (g1, 10, .inl f2)), (h3, .inl (g2, 10, .inl f3)), (h4, .inl (g3, 10, .inl f4))] U.heap ∧ va_K (dC, dI) vwCl [(g0, .int), (g1, .int), (g2, .int), (g3, .boolean)] U ∧ va_D (fun _ => True) [(h0, .inr (9, [.ref r0, .ref r1, .ref r2, .ref h1, .ref h2, .ref h3, .ref h4, .ref r3, .int v0])), (h1, .inl (g0, 10, .inl f1)), (h2, .inl (g1, 10, .inl f2)), (h3, .inl (g2, 10, .inl f3)), (h4, .inl (g3, 10, .inl f4))])) (va_Qi (fun (r : Int32) (_ : Unit) => -1 ≤ r.toInt ∧ r.toInt ≤ 10) (fun (_ : Unit) (t : State) => ∃ (o_h0_8 : Int32) (o_h1 : Nat → Int32) (o_h2 : Nat → Int32) (o_h3 : Nat → Int32) (o_h4 : Nat → Int32), 0 ≤ o_h0_8.toInt ∧ o_h0_8.toInt ≤ 10 ∧ (∀ j, 0 ≤ (o_h2 j).toInt ∧ (o_h2 j).toInt ≤ 9) ∧ va_P (dC, dI) vwCl [(h0, .inr (9, [.ref r0, .ref r1, .ref r2, .ref h1, .ref h2, .ref h3, .ref h4, .ref r3, .int o_h0_8])), (h1, .inl (g0, 10, .inl o_h1)), (h2, .inl (g1, 10, .inl o_h2)), (h3, .inl (g2, 10, .inl o_h3)), (h4, .inl (g3, 10, .inl o_h4))] t.heap ∧ va_K (dC, dI) vwCl [] t ∧ va_D (va_A [(h0, .inr (9, [.ref r0, .ref r1, .ref r2, .ref h1, .ref h2, .ref h3, .ref h4, .ref r3, .int v0])), (h1, .inl (g0, 10, .inl f1)), (h2, .inl (g1, 10, .inl f2)), (h3, .inl (g2, 10, .inl f3)), (h4, .inl (g3, 10, .inl f4))] sz) [(h0, .inr (9, [.ref r0, .ref r1, .ref r2, .ref h1, .ref h2, .ref h3, .ref h4, .ref r3, .int o_h0_8])), (h1, .inl (g0, 10, .inl o_h1)), (h2, .inl (g1, 10, .inl o_h2)), (h3, .inl (g2, 10, .inl o_h3)), (h4, .inl (g3, 10, .inl o_h4))]) (va_A [(h0, .inr (9, [.ref r0, .ref r1, .ref r2, .ref h1, .ref h2, .ref h3, .ref h4, .ref r3, .int v0])), (h1, .inl (g0, 10, .inl f1)), (h2, .inl (g1, 10, .inl f2)), (h3, .inl (g2, 10, .inl f3)), (h4, .inl (g3, 10, .inl f4))] sz)) 0 0 (va_A [(h0, .inr (9, [.ref r0, .ref r1, .ref r2, .ref h1, .ref h2, .ref h3, .ref h4, .ref r3, .int v0])), (h1, .inl (g0, 10, .inl f1)), (h2, .inl (g1, 10, .inl f2)), (h3, .inl (g2, 10, .inl f3)), (h4, .inl (g3, 10, .inl f4))] sz) := by
  refine Met.ofW (cc := cX9_add) (maxL := 5) (ret := (some .int)) (by decide) rfl ?_
  intro p e s m args below meth c s₁ B hml hv
  obtain ⟨i_v0a, i_v0b⟩ := i_v0
  obtain ⟨i_v6a, i_v6b⟩ := i_v6
  obtain ⟨i_v8a, i_v8b⟩ := i_v8
  obtain ⟨rfl, hsz, hP, hK, hD0⟩ := hv
  have hx := B.exec
  have hb := B.bytes
  have hr := B.returns
  have hts := atoms_spec (ws := q_X9_add) B.pre
  have hown : s.vm.findClass RX9 = some m.cls := findClass_of_methodNamed B.named
  have hlocks := B.notSynchronized
  subst hsz
  have hD := hD0.self (sz := s.heap.size)
  generalize hAe : va_A [(h0, .inr (9, [.ref r0, .ref r1, .ref r2, .ref h1, .ref h2, .ref h3, .ref h4, .ref r3, .int v0])), (h1, .inl (g0, 10, .inl f1)), (h2, .inl (g1, 10, .inl f2)), (h3, .inl (g2, 10, .inl f3)), (h4, .inl (g3, 10, .inl f4))] s.heap.size = A at hD ⊢
  have hA : ∀ q : Nat, s.heap.size ≤ q → A q := fun q h => by rw [← hAe]; exact Or.inr h
  have hS : va_S A s.heap s.heap [] := va_S.rf
  generalize hQ : (MQ below _ _ s 0 0 A) = Q
  have hl := lv_entry ([.ref h0, .int v5, .int v6, .int v7, .int v8]) (n := 5) (Nat.le_of_ble_eq_true rfl)
  rw [lg_entry_eq]
  generalize (lg_sl ([.ref h0, .int v5, .int v6, .int v7, .int v8]) ++ List.replicate (5 - (lg_sl ([.ref h0, .int v5, .int v6, .int v7, .int v8])).length) Slot.unset).toArray = ls at hl ⊢
  have hl : lv_has ls 5 [(0, .ref h0), (1, .int v5), (2, .int v6), (3, .int v7), (4, .int v8)] := hl
  obtain ⟨H, hH⟩ : ∃ H : Heap, H = s.heap := ⟨_, rfl⟩
  obtain ⟨locs, hlocs⟩ : ∃ y : List Loc, y = [] := ⟨_, rfl⟩
  have hS : va_S A s.heap H locs := by rw [hH, hlocs]; exact va_S.rf
  have hP : va_P (dC, dI) vwCl [(h0, .inr (9, [.ref r0, .ref r1, .ref r2, .ref h1, .ref h2, .ref h3, .ref h4, .ref r3, .int v0])), (h1, .inl (g0, 10, .inl f1)), (h2, .inl (g1, 10, .inl f2)), (h3, .inl (g2, 10, .inl f3)), (h4, .inl (g3, 10, .inl f4))] H := by rw [hH]; exact hP
  rw [← hH, ← hlocs]
  refine lv_aload_n hx hb dX9_add_0 rfl (lv_at hl 0 rfl) ?_
  refine va_get (D := (dC, dI)) (ci := 9) (v := .int v0) (C := RX9) (T := TX9) (N := 9) hx hb hts (fun _ h => List.mem_cons_of_mem _ (List.mem_append_right _ h)) hown hK hP 0 rfl rfl 8 (by decide) (hts (.fieldLink RX9 35 "LeftArguments$Sightings" "number" "I") (List.mem_cons_of_mem _ (List.mem_append_left _ (List.mem_of_getElem? (i := 0) rfl)))) (fun _ h9 => h9) rfl dX9_add_1 ?_
  refine lv_if_lt (tgt := 16) hx hb dX9_add_4 (by decide) (fun c1 => by exfalso; have fc1 : v0.toInt < 0 := Int32.lt_iff_toInt_lt.mp c1; omega) (fun _ => ?_)
  refine lv_aload_n hx hb dX9_add_7 rfl (lv_at hl 0 rfl) ?_
  refine va_get (D := (dC, dI)) (ci := 9) (v := .int v0) (C := RX9) (T := TX9) (N := 9) hx hb hts (fun _ h => List.mem_cons_of_mem _ (List.mem_append_right _ h)) hown hK hP 0 rfl rfl 8 (by decide) (hts (.fieldLink RX9 35 "LeftArguments$Sightings" "number" "I") (List.mem_cons_of_mem _ (List.mem_append_left _ (List.mem_of_getElem? (i := 0) rfl)))) (fun _ h9 => h9) rfl dX9_add_8 ?_
  refine lv_bipush (v := 10) hx hb dX9_add_11 (by decide) ?_
  refine lv_icmp_lt (tgt := 18) hx hb dX9_add_13 (by decide) (fun c2 => ?_) (fun c2 => ?_)
  · skip
    have fc2 : v0.toInt < 10 := Int32.lt_iff_toInt_lt.mp c2
    refine lv_aload_n hx hb dX9_add_18 rfl (lv_at hl 0 rfl) ?_
    refine va_get (D := (dC, dI)) (ci := 9) (v := .ref h1) (C := RX9) (T := TX9) (N := 9) hx hb hts (fun _ h => List.mem_cons_of_mem _ (List.mem_append_right _ h)) hown hK hP 0 rfl rfl 3 (by decide) (hts (.fieldLink RX9 18 "LeftArguments$Sightings" "whose" "[I") (List.mem_cons_of_mem _ (List.mem_append_left _ (List.mem_of_getElem? (i := 1) rfl)))) (fun _ h9 => h9) rfl dX9_add_19 ?_
    refine lv_aload_n hx hb dX9_add_22 rfl (lv_at hl 0 rfl) ?_
    refine va_get (D := (dC, dI)) (ci := 9) (v := .int v0) (C := RX9) (T := TX9) (N := 9) hx hb hts (fun _ h => List.mem_cons_of_mem _ (List.mem_append_right _ h)) hown hK hP 0 rfl rfl 8 (by decide) (hts (.fieldLink RX9 35 "LeftArguments$Sightings" "number" "I") (List.mem_cons_of_mem _ (List.mem_append_left _ (List.mem_of_getElem? (i := 0) rfl)))) (fun _ h9 => h9) rfl dX9_add_23 ?_
    refine lv_iload_n hx hb dX9_add_26 rfl (lv_at hl 1 rfl) ?_
    refine va_iast hx hb hK hP hD hS 1 0 rfl rfl (vp_in_iff.mpr ⟨by omega, by omega⟩) dX9_add_27 (fun H locs hP hD hS => ?_)
    obtain ⟨fn3, efn3⟩ : ∃ g : Nat → Int32, g = upd f1 (Int32.toNatClampNeg v0) v5 := ⟨_, rfl⟩
    rw [← efn3] at hP hD
    have hP : va_P (dC, dI) vwCl [(h0, .inr (9, [.ref r0, .ref r1, .ref r2, .ref h1, .ref h2, .ref h3, .ref h4, .ref r3, .int v0])), (h1, .inl (g0, 10, .inl fn3)), (h2, .inl (g1, 10, .inl f2)), (h3, .inl (g2, 10, .inl f3)), (h4, .inl (g3, 10, .inl f4))] H := hP
    have hD : va_D A [(h0, .inr (9, [.ref r0, .ref r1, .ref r2, .ref h1, .ref h2, .ref h3, .ref h4, .ref r3, .int v0])), (h1, .inl (g0, 10, .inl fn3)), (h2, .inl (g1, 10, .inl f2)), (h3, .inl (g2, 10, .inl f3)), (h4, .inl (g3, 10, .inl f4))] := hD
    refine lv_aload_n hx hb dX9_add_28 rfl (lv_at hl 0 rfl) ?_
    refine va_get (D := (dC, dI)) (ci := 9) (v := .ref h2) (C := RX9) (T := TX9) (N := 9) hx hb hts (fun _ h => List.mem_cons_of_mem _ (List.mem_append_right _ h)) hown hK hP 0 rfl rfl 4 (by decide) (hts (.fieldLink RX9 22 "LeftArguments$Sightings" "behind" "[I") (List.mem_cons_of_mem _ (List.mem_append_left _ (List.mem_of_getElem? (i := 2) rfl)))) (fun _ h9 => h9) rfl dX9_add_29 ?_
    refine lv_aload_n hx hb dX9_add_32 rfl (lv_at hl 0 rfl) ?_
    refine va_get (D := (dC, dI)) (ci := 9) (v := .int v0) (C := RX9) (T := TX9) (N := 9) hx hb hts (fun _ h => List.mem_cons_of_mem _ (List.mem_append_right _ h)) hown hK hP 0 rfl rfl 8 (by decide) (hts (.fieldLink RX9 35 "LeftArguments$Sightings" "number" "I") (List.mem_cons_of_mem _ (List.mem_append_left _ (List.mem_of_getElem? (i := 0) rfl)))) (fun _ h9 => h9) rfl dX9_add_33 ?_
    refine lv_iload_n hx hb dX9_add_36 rfl (lv_at hl 2 rfl) ?_
    refine va_iast hx hb hK hP hD hS 2 1 rfl rfl (vp_in_iff.mpr ⟨by omega, by omega⟩) dX9_add_37 (fun H locs hP hD hS => ?_)
    obtain ⟨fn4, efn4⟩ : ∃ g : Nat → Int32, g = upd f2 (Int32.toNatClampNeg v0) v6 := ⟨_, rfl⟩
    rw [← efn4] at hP hD
    have ia_fn4 : ∀ j, 0 ≤ (fn4 j).toInt ∧ (fn4 j).toInt ≤ 9 := by rw [efn4]; exact pv_updI ia_f2 (by first | omega | decide) (by first | omega | decide)
    have hP : va_P (dC, dI) vwCl [(h0, .inr (9, [.ref r0, .ref r1, .ref r2, .ref h1, .ref h2, .ref h3, .ref h4, .ref r3, .int v0])), (h1, .inl (g0, 10, .inl fn3)), (h2, .inl (g1, 10, .inl fn4)), (h3, .inl (g2, 10, .inl f3)), (h4, .inl (g3, 10, .inl f4))] H := hP
    have hD : va_D A [(h0, .inr (9, [.ref r0, .ref r1, .ref r2, .ref h1, .ref h2, .ref h3, .ref h4, .ref r3, .int v0])), (h1, .inl (g0, 10, .inl fn3)), (h2, .inl (g1, 10, .inl fn4)), (h3, .inl (g2, 10, .inl f3)), (h4, .inl (g3, 10, .inl f4))] := hD
    refine lv_aload_n hx hb dX9_add_38 rfl (lv_at hl 0 rfl) ?_
    refine va_get (D := (dC, dI)) (ci := 9) (v := .ref h3) (C := RX9) (T := TX9) (N := 9) hx hb hts (fun _ h => List.mem_cons_of_mem _ (List.mem_append_right _ h)) hown hK hP 0 rfl rfl 5 (by decide) (hts (.fieldLink RX9 25 "LeftArguments$Sightings" "marks" "[I") (List.mem_cons_of_mem _ (List.mem_append_left _ (List.mem_of_getElem? (i := 3) rfl)))) (fun _ h9 => h9) rfl dX9_add_39 ?_
    refine lv_aload_n hx hb dX9_add_42 rfl (lv_at hl 0 rfl) ?_
    refine va_get (D := (dC, dI)) (ci := 9) (v := .int v0) (C := RX9) (T := TX9) (N := 9) hx hb hts (fun _ h => List.mem_cons_of_mem _ (List.mem_append_right _ h)) hown hK hP 0 rfl rfl 8 (by decide) (hts (.fieldLink RX9 35 "LeftArguments$Sightings" "number" "I") (List.mem_cons_of_mem _ (List.mem_append_left _ (List.mem_of_getElem? (i := 0) rfl)))) (fun _ h9 => h9) rfl dX9_add_43 ?_
    refine lv_iload_n hx hb dX9_add_46 rfl (lv_at hl 3 rfl) ?_
    refine va_iast hx hb hK hP hD hS 3 2 rfl rfl (vp_in_iff.mpr ⟨by omega, by omega⟩) dX9_add_47 (fun H locs hP hD hS => ?_)
    obtain ⟨fn5, efn5⟩ : ∃ g : Nat → Int32, g = upd f3 (Int32.toNatClampNeg v0) v7 := ⟨_, rfl⟩
    rw [← efn5] at hP hD
    have hP : va_P (dC, dI) vwCl [(h0, .inr (9, [.ref r0, .ref r1, .ref r2, .ref h1, .ref h2, .ref h3, .ref h4, .ref r3, .int v0])), (h1, .inl (g0, 10, .inl fn3)), (h2, .inl (g1, 10, .inl fn4)), (h3, .inl (g2, 10, .inl fn5)), (h4, .inl (g3, 10, .inl f4))] H := hP
    have hD : va_D A [(h0, .inr (9, [.ref r0, .ref r1, .ref r2, .ref h1, .ref h2, .ref h3, .ref h4, .ref r3, .int v0])), (h1, .inl (g0, 10, .inl fn3)), (h2, .inl (g1, 10, .inl fn4)), (h3, .inl (g2, 10, .inl fn5)), (h4, .inl (g3, 10, .inl f4))] := hD
    refine lv_aload_n hx hb dX9_add_48 rfl (lv_at hl 0 rfl) ?_
    refine va_get (D := (dC, dI)) (ci := 9) (v := .ref h4) (C := RX9) (T := TX9) (N := 9) hx hb hts (fun _ h => List.mem_cons_of_mem _ (List.mem_append_right _ h)) hown hK hP 0 rfl rfl 6 (by decide) (hts (.fieldLink RX9 28 "LeftArguments$Sightings" "reached" "[Z") (List.mem_cons_of_mem _ (List.mem_append_left _ (List.mem_of_getElem? (i := 4) rfl)))) (fun _ h9 => h9) rfl dX9_add_49 ?_
    refine lv_aload_n hx hb dX9_add_52 rfl (lv_at hl 0 rfl) ?_
    refine va_get (D := (dC, dI)) (ci := 9) (v := .int v0) (C := RX9) (T := TX9) (N := 9) hx hb hts (fun _ h => List.mem_cons_of_mem _ (List.mem_append_right _ h)) hown hK hP 0 rfl rfl 8 (by decide) (hts (.fieldLink RX9 35 "LeftArguments$Sightings" "number" "I") (List.mem_cons_of_mem _ (List.mem_append_left _ (List.mem_of_getElem? (i := 0) rfl)))) (fun _ h9 => h9) rfl dX9_add_53 ?_
    refine lv_iload hx hb dX9_add_56 (lv_at hl 4 rfl) ?_
    refine va_zast hx hb hK hP hD hS 4 3 rfl rfl (vp_in_iff.mpr ⟨by omega, by omega⟩) dX9_add_58 (fun H locs hP hD hS => ?_)
    obtain ⟨fn6, efn6⟩ : ∃ g : Nat → Int32, g = upd f4 (Int32.toNatClampNeg v0) (vp_nar .boolean v8) := ⟨_, rfl⟩
    rw [← efn6] at hP hD
    have hP : va_P (dC, dI) vwCl [(h0, .inr (9, [.ref r0, .ref r1, .ref r2, .ref h1, .ref h2, .ref h3, .ref h4, .ref r3, .int v0])), (h1, .inl (g0, 10, .inl fn3)), (h2, .inl (g1, 10, .inl fn4)), (h3, .inl (g2, 10, .inl fn5)), (h4, .inl (g3, 10, .inl fn6))] H := hP
    have hD : va_D A [(h0, .inr (9, [.ref r0, .ref r1, .ref r2, .ref h1, .ref h2, .ref h3, .ref h4, .ref r3, .int v0])), (h1, .inl (g0, 10, .inl fn3)), (h2, .inl (g1, 10, .inl fn4)), (h3, .inl (g2, 10, .inl fn5)), (h4, .inl (g3, 10, .inl fn6))] := hD
    refine lv_aload_n hx hb dX9_add_59 rfl (lv_at hl 0 rfl) ?_
    refine lv_dup hx hb dX9_add_60 rfl ?_
    refine va_get (D := (dC, dI)) (ci := 9) (v := .int v0) (C := RX9) (T := TX9) (N := 9) hx hb hts (fun _ h => List.mem_cons_of_mem _ (List.mem_append_right _ h)) hown hK hP 0 rfl rfl 8 (by decide) (hts (.fieldLink RX9 35 "LeftArguments$Sightings" "number" "I") (List.mem_cons_of_mem _ (List.mem_append_left _ (List.mem_of_getElem? (i := 0) rfl)))) (fun _ h9 => h9) rfl dX9_add_61 ?_
    refine lv_iconst (v := 1) hx hb dX9_add_64 (by decide) ?_
    refine lv_iadd hx hb dX9_add_65 ?_
    refine lv_topi (fun t7 et7 => ?_)
    have gt7 : t7.toInt = v0.toInt + 1 := pv_add (a := v0.toInt) (b := 1) et7 rfl (by decide) (by omega) (by omega)
    refine va_put (D := (dC, dI)) (ci := 9) (v := .int t7) (ty := .int) (C := RX9) (T := TX9) (N := 9) hx hb hts (fun _ h => List.mem_cons_of_mem _ (List.mem_append_right _ h)) tyX9 tyX9_ok nmX9 hown hK hP hD hS 0 rfl rfl 8 (by decide) (hts (.fieldLink RX9 35 "LeftArguments$Sightings" "number" "I") (List.mem_cons_of_mem _ (List.mem_append_left _ (List.mem_of_getElem? (i := 0) rfl)))) (fun _ h9 => h9) rfl (by decide +kernel) rfl rfl (Nat.le_of_ble_eq_true rfl) dX9_add_66 (fun H locs hP hD hS => ?_)
    have hP : va_P (dC, dI) vwCl [(h0, .inr (9, [.ref r0, .ref r1, .ref r2, .ref h1, .ref h2, .ref h3, .ref h4, .ref r3, .int t7])), (h1, .inl (g0, 10, .inl fn3)), (h2, .inl (g1, 10, .inl fn4)), (h3, .inl (g2, 10, .inl fn5)), (h4, .inl (g3, 10, .inl fn6))] H := hP
    have hD : va_D A [(h0, .inr (9, [.ref r0, .ref r1, .ref r2, .ref h1, .ref h2, .ref h3, .ref h4, .ref r3, .int t7])), (h1, .inl (g0, 10, .inl fn3)), (h2, .inl (g1, 10, .inl fn4)), (h3, .inl (g2, 10, .inl fn5)), (h4, .inl (g3, 10, .inl fn6))] := hD
    refine lv_aload_n hx hb dX9_add_69 rfl (lv_at hl 0 rfl) ?_
    refine va_get (D := (dC, dI)) (ci := 9) (v := .int t7) (C := RX9) (T := TX9) (N := 9) hx hb hts (fun _ h => List.mem_cons_of_mem _ (List.mem_append_right _ h)) hown hK hP 0 rfl rfl 8 (by decide) (hts (.fieldLink RX9 35 "LeftArguments$Sightings" "number" "I") (List.mem_cons_of_mem _ (List.mem_append_left _ (List.mem_of_getElem? (i := 0) rfl)))) (fun _ h9 => h9) rfl dX9_add_70 ?_
    subst hQ
    have hP9 := hP.sub (ws' := [(h0, .inr (9, [.ref r0, .ref r1, .ref r2, .ref h1, .ref h2, .ref h3, .ref h4, .ref r3, .int t7])), (h1, .inl (g0, 10, .inl fn3)), (h2, .inl (g1, 10, .inl fn4)), (h3, .inl (g2, 10, .inl fn5)), (h4, .inl (g3, 10, .inl fn6))]) [0, 1, 2, 3, 4] rfl
    have hD9 := hD.sub (ws' := [(h0, .inr (9, [.ref r0, .ref r1, .ref r2, .ref h1, .ref h2, .ref h3, .ref h4, .ref r3, .int t7])), (h1, .inl (g0, 10, .inl fn3)), (h2, .inl (g1, 10, .inl fn4)), (h3, .inl (g2, 10, .inl fn5)), (h4, .inl (g3, 10, .inl fn6))]) [0, 1, 2, 3, 4] (by decide) rfl
    have hK9 := hK.sub (tys' := []) [] rfl
    exact W.iret (v := t7) hx hb hr (fun t ht hW => ⟨⟨t7, (), rfl, ⟨by first | omega | decide, by first | omega | decide⟩, t7, fn3, fn4, fn5, fn6, by first | omega | decide, by first | omega | decide, ia_fn4, by rw [ht]; exact hP9, va_K.moved hW.alike hK9, hD9⟩, hS.F ht⟩) hS.2.2 dX9_add_73
  · skip
    have fc2 : ¬ (v0.toInt < 10) := fun h9 => c2 (Int32.lt_iff_toInt_lt.mpr h9)
    refine lv_iconst (v := (-1)) hx hb dX9_add_16 (by decide) ?_
    subst hQ
    have hP9 := hP.sub (ws' := [(h0, .inr (9, [.ref r0, .ref r1, .ref r2, .ref h1, .ref h2, .ref h3, .ref h4, .ref r3, .int v0])), (h1, .inl (g0, 10, .inl f1)), (h2, .inl (g1, 10, .inl f2)), (h3, .inl (g2, 10, .inl f3)), (h4, .inl (g3, 10, .inl f4))]) [0, 1, 2, 3, 4] rfl
    have hD9 := hD.sub (ws' := [(h0, .inr (9, [.ref r0, .ref r1, .ref r2, .ref h1, .ref h2, .ref h3, .ref h4, .ref r3, .int v0])), (h1, .inl (g0, 10, .inl f1)), (h2, .inl (g1, 10, .inl f2)), (h3, .inl (g2, 10, .inl f3)), (h4, .inl (g3, 10, .inl f4))]) [0, 1, 2, 3, 4] (by decide) rfl
    have hK9 := hK.sub (tys' := []) [] rfl
    exact W.iret (v := (-1)) hx hb hr (fun t ht hW => ⟨⟨(-1), (), rfl, ⟨by first | omega | decide, by first | omega | decide⟩, v0, f1, f2, f3, f4, by first | omega | decide, by first | omega | decide, ia_f2, by rw [ht]; exact hP9, va_K.moved hW.alike hK9, hD9⟩, hS.F ht⟩) hS.2.2 dX9_add_17
def q_X11_seen : List Cond := .code yX11_seen cX11_seen 5 (some .int) :: (([.fieldLink RX11 42 "LeftArguments" "office" "LLeftArguments$Office;", .code yX5_hasTold cX5_hasTold 2 (some .boolean), .fieldLink RX5 20 "LeftArguments$Office" "toldCount" "I", .initialized RX5, .instanceMethod yX5_hasTold, .selects RX5 yX5_hasTold yX5_hasTold, .methodLink RX11 319 yX5_hasTold, .code yX11_within cX11_within 3 (some .boolean), .initialized RX11, .static yX11_within, .methodLink RX11 239 yX11_within, .fieldLink RX11 79 "LeftArguments" "sightings" "LLeftArguments$Sightings;", .code yX9_add cX9_add 5 (some .int), .fieldLink RX9 35 "LeftArguments$Sightings" "number" "I", .fieldLink RX9 18 "LeftArguments$Sightings" "whose" "[I", .fieldLink RX9 22 "LeftArguments$Sightings" "behind" "[I", .fieldLink RX9 25 "LeftArguments$Sightings" "marks" "[I", .fieldLink RX9 28 "LeftArguments$Sightings" "reached" "[Z", .initialized RX9, .instanceMethod yX9_add, .selects RX9 yX9_add yX9_add, .methodLink RX11 322 yX9_add] : List Cond) ++ wsX110 ++ wsX50 ++ wsX90)
set_option maxRecDepth 20000 in
theorem g_X11_seen_0 : GoodIn q_X11_seen (wsV RX11 319 RX5 yX5_hasTold q_X5_hasTold) := goodIn_app (goodIn_r _ [7, 5, 6, 4] (by decide +kernel) (by decide +kernel)) (goodIn_ca (goodIn_r (.code yX5_hasTold cX5_hasTold 2 (some .boolean) :: [.fieldLink RX5 20 "LeftArguments$Office" "toldCount" "I"]) [2, 3] (by decide +kernel) (by decide +kernel)) (goodIn_sub (fun _ h => List.mem_cons_of_mem _ (List.mem_append_left _ (List.mem_append_right _ h))) gwX5))
set_option maxRecDepth 20000 in
theorem g_X11_seen_1 : GoodIn q_X11_seen (va_wsS RX11 239 yX11_within q_X11_within_3) := goodIn_app (goodIn_r _ [11, 10, 9] (by decide +kernel) (by decide +kernel)) (goodIn_r (.code yX11_within cX11_within 3 (some .boolean) :: []) [8] (by decide +kernel) (by decide +kernel))
set_option maxRecDepth 20000 in
theorem g_X11_seen_2 : GoodIn q_X11_seen (va_wsS RX11 239 yX11_within q_X11_within_4) := goodIn_app (goodIn_r _ [11, 10, 9] (by decide +kernel) (by decide +kernel)) (goodIn_r (.code yX11_within cX11_within 3 (some .boolean) :: []) [8] (by decide +kernel) (by decide +kernel))
set_option maxRecDepth 20000 in
theorem g_X11_seen_3 : GoodIn q_X11_seen (wsV RX11 322 RX9 yX9_add q_X9_add) := goodIn_app (goodIn_r _ [22, 20, 21, 19] (by decide +kernel) (by decide +kernel)) (goodIn_ca (goodIn_r (.code yX9_add cX9_add 5 (some .int) :: [.fieldLink RX9 35 "LeftArguments$Sightings" "number" "I", .fieldLink RX9 18 "LeftArguments$Sightings" "whose" "[I", .fieldLink RX9 22 "LeftArguments$Sightings" "behind" "[I", .fieldLink RX9 25 "LeftArguments$Sightings" "marks" "[I", .fieldLink RX9 28 "LeftArguments$Sightings" "reached" "[Z"]) [13, 14, 15, 16, 17, 18] (by decide +kernel) (by decide +kernel)) (goodIn_sub (fun _ h => List.mem_cons_of_mem _ (List.mem_append_right _ h)) gwX9))
set_option maxHeartbeats 4000000 in
set_option maxRecDepth 100000 in
theorem k_X11_seen (l : Launch) (dC : Nat → ClassId) (dI : Nat → Nat → Nat) (h0 : Nat) (h1 : Nat) (h2 : Nat) (h3 : Nat) (h4 : Nat) (h5 : Nat) (h6 : Nat) (r0 : Nat) (r1 : Nat) (r2 : Nat) (r3 : Nat) (r4 : Nat) (r5 : Nat) (r6 : Nat) (r7 : Nat) (r8 : Nat) (r9 : Nat) (r10 : Nat) (r11 : Nat) (v0 : Int32) (v1 : Int32) (w2 : Int64) (r12 : Nat) (r13 : Nat) (v3 : Int32) (v4 : Int32) (r14 : Nat) (r15 : Nat) (v5 : Int32) (g0 : ClassId) (f6 : Nat → Int32) (g1 : ClassId) (f7 : Nat → Int32) (g2 : ClassId) (f8 : Nat → Int32) (g3 : ClassId) (f9 : Nat → Int32) (v10 : Int32) (v11 : Int32) (v12 : Int32) (v13 : Int32) (i_v0 : 0 ≤ v0.toInt ∧ v0.toInt ≤ 1) (i_v4 : 0 ≤ v4.toInt ∧ v4.toInt ≤ 1) (i_v5 : 0 ≤ v5.toInt ∧ v5.toInt ≤ 10) (i_v13 : 0 ≤ v13.toInt ∧ v13.toInt ≤ 1) (ia_f7 : ∀ j, 0 ≤ (f7 j).toInt ∧ (f7 j).toInt ≤ 9) (sz : Nat) : Met l yX11_seen q_X11_seen ({ frames := 1, cells := 0, slots := 0, locals := 24 }) (va_Pc [.ref h0, .int v10, .int v11, .int v12, .int v13] (fun U => U.heap.size = sz ∧ va_P (dC, dI) vwCl [(h0, .inr (11, [.ref r0, .ref r1, .ref r2, .ref r3, .ref h1, .ref r4, .ref r5, .ref r6, .ref r7, .ref h2, .ref r8, .ref r9, .ref r10, .ref r11, .int v0, .int v1, .long w2])), (h1, .inr (5, [.ref r12, .ref r13, .int v3, .int v4])), (h2, .inr (9, [.ref r3, .ref h1, .ref r14, .ref h3, .ref h4, .ref h5, .ref h6, .ref r15, .int v5])), (h3, .inl (g0, 10, .inl f6)), (h4, .inl (g1, 10, .inl f7)), (h5, .inl (g2, 10, .inl f8)), (h6, .inl (g3, 10, .inl f9))] U.heap ∧ va_K (dC, dI) vwCl [(g0, .int), (g1, .int), (g2, .int), (g3, .boolean)] U ∧ va_D (fun _ => True) [(h0, .inr (11, [.ref r0, .ref r1, .ref r2, .ref r3, .ref h1, .ref r4, .ref r5, .ref r6, .ref r7, .ref h2, .ref r8, .ref r9, .ref r10, .ref r11, .int v0, .int v1, .long w2])), (h1, .inr (5, [.ref r12, .ref r13, .int v3, .int v4])), (h2, .inr (9, [.ref r3, .ref h1, .ref r14, .ref h3, .ref h4, .ref h5, .ref h6, .ref r15, .int v5])), (h3, .inl (g0, 10, .inl f6)), (h4, .inl (g1, 10, .inl f7)), (h5, .inl (g2, 10, .inl f8)), (h6, .inl (g3, 10, .inl f9))])) (va_Qi (fun (r : Int32) (_ : Unit) => -1 ≤ r.toInt ∧ r.toInt ≤ 10) (fun (_ : Unit) (t : State) => ∃ (o_h2_8 : Int32) (o_h3 : Nat → Int32) (o_h4 : Nat → Int32) (o_h5 : Nat → Int32) (o_h6 : Nat → Int32), 0 ≤ o_h2_8.toInt ∧ o_h2_8.toInt ≤ 10 ∧ (∀ j, 0 ≤ (o_h4 j).toInt ∧ (o_h4 j).toInt ≤ 9) ∧ va_P (dC, dI) vwCl [(h0, .inr (11, [.ref r0, .ref r1, .ref r2, .ref r3, .ref h1, .ref r4, .ref r5, .ref r6, .ref r7, .ref h2, .ref r8, .ref r9, .ref r10, .ref r11, .int v0, .int v1, .long w2])), (h1, .inr (5, [.ref r12, .ref r13, .int v3, .int v4])), (h2, .inr (9, [.ref r3, .ref h1, .ref r14, .ref h3, .ref h4, .ref h5, .ref h6, .ref r15, .int o_h2_8])), (h3, .inl (g0, 10, .inl o_h3)), (h4, .inl (g1, 10, .inl o_h4)), (h5, .inl (g2, 10, .inl o_h5)), (h6, .inl (g3, 10, .inl o_h6))] t.heap ∧ va_K (dC, dI) vwCl [] t ∧ va_D (va_A [(h0, .inr (11, [.ref r0, .ref r1, .ref r2, .ref r3, .ref h1, .ref r4, .ref r5, .ref r6, .ref r7, .ref h2, .ref r8, .ref r9, .ref r10, .ref r11, .int v0, .int v1, .long w2])), (h1, .inr (5, [.ref r12, .ref r13, .int v3, .int v4])), (h2, .inr (9, [.ref r3, .ref h1, .ref r14, .ref h3, .ref h4, .ref h5, .ref h6, .ref r15, .int v5])), (h3, .inl (g0, 10, .inl f6)), (h4, .inl (g1, 10, .inl f7)), (h5, .inl (g2, 10, .inl f8)), (h6, .inl (g3, 10, .inl f9))] sz) [(h0, .inr (11, [.ref r0, .ref r1, .ref r2, .ref r3, .ref h1, .ref r4, .ref r5, .ref r6, .ref r7, .ref h2, .ref r8, .ref r9, .ref r10, .ref r11, .int v0, .int v1, .long w2])), (h1, .inr (5, [.ref r12, .ref r13, .int v3, .int v4])), (h2, .inr (9, [.ref r3, .ref h1, .ref r14, .ref h3, .ref h4, .ref h5, .ref h6, .ref r15, .int o_h2_8])), (h3, .inl (g0, 10, .inl o_h3)), (h4, .inl (g1, 10, .inl o_h4)), (h5, .inl (g2, 10, .inl o_h5)), (h6, .inl (g3, 10, .inl o_h6))]) (va_A [(h0, .inr (11, [.ref r0, .ref r1, .ref r2, .ref r3, .ref h1, .ref r4, .ref r5, .ref r6, .ref r7, .ref h2, .ref r8, .ref r9, .ref r10, .ref r11, .int v0, .int v1, .long w2])), (h1, .inr (5, [.ref r12, .ref r13, .int v3, .int v4])), (h2, .inr (9, [.ref r3, .ref h1, .ref r14, .ref h3, .ref h4, .ref h5, .ref h6, .ref r15, .int v5])), (h3, .inl (g0, 10, .inl f6)), (h4, .inl (g1, 10, .inl f7)), (h5, .inl (g2, 10, .inl f8)), (h6, .inl (g3, 10, .inl f9))] sz)) 0 0 (va_A [(h0, .inr (11, [.ref r0, .ref r1, .ref r2, .ref r3, .ref h1, .ref r4, .ref r5, .ref r6, .ref r7, .ref h2, .ref r8, .ref r9, .ref r10, .ref r11, .int v0, .int v1, .long w2])), (h1, .inr (5, [.ref r12, .ref r13, .int v3, .int v4])), (h2, .inr (9, [.ref r3, .ref h1, .ref r14, .ref h3, .ref h4, .ref h5, .ref h6, .ref r15, .int v5])), (h3, .inl (g0, 10, .inl f6)), (h4, .inl (g1, 10, .inl f7)), (h5, .inl (g2, 10, .inl f8)), (h6, .inl (g3, 10, .inl f9))] sz) := by
  refine Met.ofW (cc := cX11_seen) (maxL := 5) (ret := (some .int)) (by decide) rfl ?_
  intro p e s m args below meth c s₁ B hml hv
  obtain ⟨i_v0a, i_v0b⟩ := i_v0
  obtain ⟨i_v4a, i_v4b⟩ := i_v4
  obtain ⟨i_v5a, i_v5b⟩ := i_v5
  obtain ⟨i_v13a, i_v13b⟩ := i_v13
  obtain ⟨rfl, hsz, hP, hK, hD0⟩ := hv
  have hx := B.exec
  have hb := B.bytes
  have hr := B.returns
  have hts := atoms_spec (ws := q_X11_seen) B.pre
  have hown : s.vm.findClass RX11 = some m.cls := findClass_of_methodNamed B.named
  have hlocks := B.notSynchronized
  subst hsz
  have hD := hD0.self (sz := s.heap.size)
  generalize hAe : va_A [(h0, .inr (11, [.ref r0, .ref r1, .ref r2, .ref r3, .ref h1, .ref r4, .ref r5, .ref r6, .ref r7, .ref h2, .ref r8, .ref r9, .ref r10, .ref r11, .int v0, .int v1, .long w2])), (h1, .inr (5, [.ref r12, .ref r13, .int v3, .int v4])), (h2, .inr (9, [.ref r3, .ref h1, .ref r14, .ref h3, .ref h4, .ref h5, .ref h6, .ref r15, .int v5])), (h3, .inl (g0, 10, .inl f6)), (h4, .inl (g1, 10, .inl f7)), (h5, .inl (g2, 10, .inl f8)), (h6, .inl (g3, 10, .inl f9))] s.heap.size = A at hD ⊢
  have hA : ∀ q : Nat, s.heap.size ≤ q → A q := fun q h => by rw [← hAe]; exact Or.inr h
  have hS : va_S A s.heap s.heap [] := va_S.rf
  generalize hQ : (MQ below _ _ s 0 0 A) = Q
  have hl := lv_entry ([.ref h0, .int v10, .int v11, .int v12, .int v13]) (n := 5) (Nat.le_of_ble_eq_true rfl)
  rw [lg_entry_eq]
  generalize (lg_sl ([.ref h0, .int v10, .int v11, .int v12, .int v13]) ++ List.replicate (5 - (lg_sl ([.ref h0, .int v10, .int v11, .int v12, .int v13])).length) Slot.unset).toArray = ls at hl ⊢
  have hl : lv_has ls 5 [(0, .ref h0), (1, .int v10), (2, .int v11), (3, .int v12), (4, .int v13)] := hl
  obtain ⟨H, hH⟩ : ∃ H : Heap, H = s.heap := ⟨_, rfl⟩
  obtain ⟨locs, hlocs⟩ : ∃ y : List Loc, y = [] := ⟨_, rfl⟩
  have hS : va_S A s.heap H locs := by rw [hH, hlocs]; exact va_S.rf
  have hP : va_P (dC, dI) vwCl [(h0, .inr (11, [.ref r0, .ref r1, .ref r2, .ref r3, .ref h1, .ref r4, .ref r5, .ref r6, .ref r7, .ref h2, .ref r8, .ref r9, .ref r10, .ref r11, .int v0, .int v1, .long w2])), (h1, .inr (5, [.ref r12, .ref r13, .int v3, .int v4])), (h2, .inr (9, [.ref r3, .ref h1, .ref r14, .ref h3, .ref h4, .ref h5, .ref h6, .ref r15, .int v5])), (h3, .inl (g0, 10, .inl f6)), (h4, .inl (g1, 10, .inl f7)), (h5, .inl (g2, 10, .inl f8)), (h6, .inl (g3, 10, .inl f9))] H := by rw [hH]; exact hP
  rw [← hH, ← hlocs]
  refine lv_aload_n hx hb dX11_seen_0 rfl (lv_at hl 0 rfl) ?_
  refine va_get (D := (dC, dI)) (ci := 11) (v := .ref h1) (C := RX11) (T := TX11) (N := 17) hx hb hts (fun _ h => List.mem_cons_of_mem _ (List.mem_append_left _ (List.mem_append_left _ (List.mem_append_right _ h)))) hown hK hP 0 rfl rfl 4 (by decide) (hts (.fieldLink RX11 42 "LeftArguments" "office" "LLeftArguments$Office;") (List.mem_cons_of_mem _ (List.mem_append_left _ (List.mem_append_left _ (List.mem_append_left _ (List.mem_of_getElem? (i := 0) rfl)))))) (fun _ h9 => h9) rfl dX11_seen_1 ?_
  refine lv_iload_n hx hb dX11_seen_4 rfl (lv_at hl 1 rfl) ?_
  have hPc := hP.sub (ws' := [(h1, .inr (5, [.ref r12, .ref r13, .int v3, .int v4]))]) [1] rfl
  have hDc := hD.sub (ws' := [(h1, .inr (5, [.ref r12, .ref r13, .int v3, .int v4]))]) [1] (by decide) rfl
  have hKc := hK.sub (tys' := []) [] rfl
  have hFc := va_free (wc := [(h1, .inr (5, [.ref r12, .ref r13, .int v3, .int v4]))]) hD hS hA [1] rfl
  refine va_calli (va_runV (As := [.int v10]) (rest := []) ⟨hx, hb, hml, hown, hts⟩ (k_X5_hasTold l dC dI h1 r12 r13 v3 v4 v10 ⟨by first | omega | decide, by first | omega | decide⟩ H.size) (cwV 1 hts g_X11_seen_0 rfl rfl rfl (by decide +kernel) ⟨Nat.le_of_ble_eq_true rfl, Nat.le_of_ble_eq_true rfl⟩) ⟨fun a U g mk q => by obtain ⟨q0, q1, qP, qK, qD⟩ := q; exact ⟨q0, q1, qP, va_K.moved (u := U) (U := U.calling g mk a) (Vm.Alike.refl U.vm) qK, qD⟩, va_recv hKc hPc (ci := 5) (q0 := 0) rfl rfl, fun U hU hW => ⟨rfl, by rw [hU], by rw [hU]; exact hPc, va_K.moved hW.alike hKc, hDc.weaken (fun _ _ _ _ => trivial)⟩⟩ rfl rfl hl.1 rfl (lv_room (Nat.le_of_ble_eq_true rfl)) dX11_seen_5 ⟨Nat.le_of_ble_eq_true rfl, Nat.le_of_ble_eq_true rfl⟩) hS (fun q _ h => hFc q h) hFc (fun ra1 u t H1 locs ht hvm hwra1 hB hz1 hk1 hS => ?_)
  obtain ⟨hP1, hK1, hD1⟩ := hB
  rw [ht] at hP1
  obtain ⟨hP, hD⟩ := va_join (wr := [(h0, .inr (11, [.ref r0, .ref r1, .ref r2, .ref r3, .ref h1, .ref r4, .ref r5, .ref r6, .ref r7, .ref h2, .ref r8, .ref r9, .ref r10, .ref r11, .int v0, .int v1, .long w2])), (h2, .inr (9, [.ref r3, .ref h1, .ref r14, .ref h3, .ref h4, .ref h5, .ref h6, .ref r15, .int v5])), (h3, .inl (g0, 10, .inl f6)), (h4, .inl (g1, 10, .inl f7)), (h5, .inl (g2, 10, .inl f8)), (h6, .inl (g3, 10, .inl f9))]) (w1 := [(h1, .inr (5, [.ref r12, .ref r13, .int v3, .int v4]))]) hP hD [1] [0, 2, 3, 4, 5, 6] rfl rfl (by decide) (by decide) hk1 hFc hP1 hD1
  generalize H1 = H at hP hS ⊢
  have hP := hP.sub (ws' := [(h0, .inr (11, [.ref r0, .ref r1, .ref r2, .ref r3, .ref h1, .ref r4, .ref r5, .ref r6, .ref r7, .ref h2, .ref r8, .ref r9, .ref r10, .ref r11, .int v0, .int v1, .long w2])), (h1, .inr (5, [.ref r12, .ref r13, .int v3, .int v4])), (h2, .inr (9, [.ref r3, .ref h1, .ref r14, .ref h3, .ref h4, .ref h5, .ref h6, .ref r15, .int v5])), (h3, .inl (g0, 10, .inl f6)), (h4, .inl (g1, 10, .inl f7)), (h5, .inl (g2, 10, .inl f8)), (h6, .inl (g3, 10, .inl f9))]) [0, 6, 1, 2, 3, 4, 5] rfl
  have hD := hD.sub (ws' := [(h0, .inr (11, [.ref r0, .ref r1, .ref r2, .ref r3, .ref h1, .ref r4, .ref r5, .ref r6, .ref r7, .ref h2, .ref r8, .ref r9, .ref r10, .ref r11, .int v0, .int v1, .long w2])), (h1, .inr (5, [.ref r12, .ref r13, .int v3, .int v4])), (h2, .inr (9, [.ref r3, .ref h1, .ref r14, .ref h3, .ref h4, .ref h5, .ref h6, .ref r15, .int v5])), (h3, .inl (g0, 10, .inl f6)), (h4, .inl (g1, 10, .inl f7)), (h5, .inl (g2, 10, .inl f8)), (h6, .inl (g3, 10, .inl f9))]) [0, 6, 1, 2, 3, 4, 5] (by decide) rfl
  have hP : va_P (dC, dI) vwCl [(h0, .inr (11, [.ref r0, .ref r1, .ref r2, .ref r3, .ref h1, .ref r4, .ref r5, .ref r6, .ref r7, .ref h2, .ref r8, .ref r9, .ref r10, .ref r11, .int v0, .int v1, .long w2])), (h1, .inr (5, [.ref r12, .ref r13, .int v3, .int v4])), (h2, .inr (9, [.ref r3, .ref h1, .ref r14, .ref h3, .ref h4, .ref h5, .ref h6, .ref r15, .int v5])), (h3, .inl (g0, 10, .inl f6)), (h4, .inl (g1, 10, .inl f7)), (h5, .inl (g2, 10, .inl f8)), (h6, .inl (g3, 10, .inl f9))] H := hP
  have hD : va_D A [(h0, .inr (11, [.ref r0, .ref r1, .ref r2, .ref r3, .ref h1, .ref r4, .ref r5, .ref r6, .ref r7, .ref h2, .ref r8, .ref r9, .ref r10, .ref r11, .int v0, .int v1, .long w2])), (h1, .inr (5, [.ref r12, .ref r13, .int v3, .int v4])), (h2, .inr (9, [.ref r3, .ref h1, .ref r14, .ref h3, .ref h4, .ref h5, .ref h6, .ref r15, .int v5])), (h3, .inl (g0, 10, .inl f6)), (h4, .inl (g1, 10, .inl f7)), (h5, .inl (g2, 10, .inl f8)), (h6, .inl (g3, 10, .inl f9))] := hD
  obtain ⟨wa_ra1, wb_ra1⟩ := hwra1
  have wa_ra1 : 0 ≤ ra1.toInt := wa_ra1
  have wb_ra1 : ra1.toInt ≤ 1 := wb_ra1
  refine lv_if_eq (tgt := 31) hx hb dX11_seen_8 (by decide) (fun c2 => ?_) (fun c2 => ?_)
  · skip
    have fc2 : ra1.toInt = 0 := congrArg Int32.toInt c2
    refine lv_iconst (v := (-1)) hx hb dX11_seen_31 (by decide) ?_
    subst hQ
    have hP9 := hP.sub (ws' := [(h0, .inr (11, [.ref r0, .ref r1, .ref r2, .ref r3, .ref h1, .ref r4, .ref r5, .ref r6, .ref r7, .ref h2, .ref r8, .ref r9, .ref r10, .ref r11, .int v0, .int v1, .long w2])), (h1, .inr (5, [.ref r12, .ref r13, .int v3, .int v4])), (h2, .inr (9, [.ref r3, .ref h1, .ref r14, .ref h3, .ref h4, .ref h5, .ref h6, .ref r15, .int v5])), (h3, .inl (g0, 10, .inl f6)), (h4, .inl (g1, 10, .inl f7)), (h5, .inl (g2, 10, .inl f8)), (h6, .inl (g3, 10, .inl f9))]) [0, 1, 2, 3, 4, 5, 6] rfl
    have hD9 := hD.sub (ws' := [(h0, .inr (11, [.ref r0, .ref r1, .ref r2, .ref r3, .ref h1, .ref r4, .ref r5, .ref r6, .ref r7, .ref h2, .ref r8, .ref r9, .ref r10, .ref r11, .int v0, .int v1, .long w2])), (h1, .inr (5, [.ref r12, .ref r13, .int v3, .int v4])), (h2, .inr (9, [.ref r3, .ref h1, .ref r14, .ref h3, .ref h4, .ref h5, .ref h6, .ref r15, .int v5])), (h3, .inl (g0, 10, .inl f6)), (h4, .inl (g1, 10, .inl f7)), (h5, .inl (g2, 10, .inl f8)), (h6, .inl (g3, 10, .inl f9))]) [0, 1, 2, 3, 4, 5, 6] (by decide) rfl
    have hK9 := hK.sub (tys' := []) [] rfl
    exact W.iret (v := (-1)) hx hb hr (fun t ht hW => ⟨⟨(-1), (), rfl, ⟨by first | omega | decide, by first | omega | decide⟩, v5, f6, f7, f8, f9, by first | omega | decide, by first | omega | decide, ia_f7, by rw [ht]; exact hP9, va_K.moved hW.alike hK9, hD9⟩, hS.F ht⟩) hS.2.2 dX11_seen_32
  · skip
    have fc2 : ¬ (ra1.toInt = 0) := fun h9 => c2 (Int32.toInt_inj.mp h9)
    refine lv_iload_n hx hb dX11_seen_11 rfl (lv_at hl 2 rfl) ?_
    refine lv_iconst (v := 1) hx hb dX11_seen_12 (by decide) ?_
    refine lv_bipush (v := 9) hx hb dX11_seen_13 (by decide) ?_
    have hPc := hP.sub (ws' := []) [] rfl
    have hDc := hD.sub (ws' := []) [] (by decide) rfl
    have hKc := hK.sub (tys' := []) [] rfl
    have hFc := va_free (wc := []) hD hS hA [] rfl
    refine va_calli (va_runS (As := [.int v11, .int 1, .int 9]) (rest := []) ⟨hx, hb, hml, hown, hts⟩ (k_X11_within_3 l dC dI v11  H.size) (va_cwS 3 hts g_X11_seen_1 rfl rfl rfl (by decide +kernel) ⟨Nat.le_of_ble_eq_true rfl, Nat.le_of_ble_eq_true rfl⟩) ⟨fun a U g mk q => by obtain ⟨q0, q1, qP, qK, qD⟩ := q; exact ⟨q0, q1, qP, va_K.moved (u := U) (U := U.calling g mk a) (Vm.Alike.refl U.vm) qK, qD⟩, fun U hU hW => ⟨rfl, by rw [hU], by rw [hU]; exact hPc, va_K.moved hW.alike hKc, hDc.weaken (fun _ _ _ _ => trivial)⟩⟩ rfl rfl hl.1 rfl (lv_room (Nat.le_of_ble_eq_true rfl)) dX11_seen_15 ⟨Nat.le_of_ble_eq_true rfl, Nat.le_of_ble_eq_true rfl⟩) hS (fun q _ h => hFc q h) hFc (fun ra3 u t H1 locs ht hvm hwra3 hB hz1 hk1 hS => ?_)
    obtain ⟨hP1, hK1, hD1⟩ := hB
    rw [ht] at hP1
    obtain ⟨hP, hD⟩ := va_join (wr := [(h0, .inr (11, [.ref r0, .ref r1, .ref r2, .ref r3, .ref h1, .ref r4, .ref r5, .ref r6, .ref r7, .ref h2, .ref r8, .ref r9, .ref r10, .ref r11, .int v0, .int v1, .long w2])), (h1, .inr (5, [.ref r12, .ref r13, .int v3, .int v4])), (h2, .inr (9, [.ref r3, .ref h1, .ref r14, .ref h3, .ref h4, .ref h5, .ref h6, .ref r15, .int v5])), (h3, .inl (g0, 10, .inl f6)), (h4, .inl (g1, 10, .inl f7)), (h5, .inl (g2, 10, .inl f8)), (h6, .inl (g3, 10, .inl f9))]) (w1 := []) hP hD [] [0, 1, 2, 3, 4, 5, 6] rfl rfl (by decide) (by decide) hk1 hFc hP1 hD1
    generalize H1 = H at hP hS ⊢
    have hP : va_P (dC, dI) vwCl [(h0, .inr (11, [.ref r0, .ref r1, .ref r2, .ref r3, .ref h1, .ref r4, .ref r5, .ref r6, .ref r7, .ref h2, .ref r8, .ref r9, .ref r10, .ref r11, .int v0, .int v1, .long w2])), (h1, .inr (5, [.ref r12, .ref r13, .int v3, .int v4])), (h2, .inr (9, [.ref r3, .ref h1, .ref r14, .ref h3, .ref h4, .ref h5, .ref h6, .ref r15, .int v5])), (h3, .inl (g0, 10, .inl f6)), (h4, .inl (g1, 10, .inl f7)), (h5, .inl (g2, 10, .inl f8)), (h6, .inl (g3, 10, .inl f9))] H := hP
    have hD : va_D A [(h0, .inr (11, [.ref r0, .ref r1, .ref r2, .ref r3, .ref h1, .ref r4, .ref r5, .ref r6, .ref r7, .ref h2, .ref r8, .ref r9, .ref r10, .ref r11, .int v0, .int v1, .long w2])), (h1, .inr (5, [.ref r12, .ref r13, .int v3, .int v4])), (h2, .inr (9, [.ref r3, .ref h1, .ref r14, .ref h3, .ref h4, .ref h5, .ref h6, .ref r15, .int v5])), (h3, .inl (g0, 10, .inl f6)), (h4, .inl (g1, 10, .inl f7)), (h5, .inl (g2, 10, .inl f8)), (h6, .inl (g3, 10, .inl f9))] := hD
    obtain ⟨wa_ra3, wb_ra3, wc_ra3⟩ := hwra3
    have wa_ra3 : 0 ≤ ra3.toInt := wa_ra3
    have wb_ra3 : ra3.toInt ≤ 1 := wb_ra3
    have wc_ra3 : (ra3.toInt = 1 → 1 ≤ v11.toInt ∧ v11.toInt ≤ 9) := wc_ra3
    refine lv_if_eq (tgt := 31) hx hb dX11_seen_18 (by decide) (fun c4 => ?_) (fun c4 => ?_)
    · skip
      have fc4 : ra3.toInt = 0 := congrArg Int32.toInt c4
      refine lv_iconst (v := (-1)) hx hb dX11_seen_31 (by decide) ?_
      subst hQ
      have hP9 := hP.sub (ws' := [(h0, .inr (11, [.ref r0, .ref r1, .ref r2, .ref r3, .ref h1, .ref r4, .ref r5, .ref r6, .ref r7, .ref h2, .ref r8, .ref r9, .ref r10, .ref r11, .int v0, .int v1, .long w2])), (h1, .inr (5, [.ref r12, .ref r13, .int v3, .int v4])), (h2, .inr (9, [.ref r3, .ref h1, .ref r14, .ref h3, .ref h4, .ref h5, .ref h6, .ref r15, .int v5])), (h3, .inl (g0, 10, .inl f6)), (h4, .inl (g1, 10, .inl f7)), (h5, .inl (g2, 10, .inl f8)), (h6, .inl (g3, 10, .inl f9))]) [0, 1, 2, 3, 4, 5, 6] rfl
      have hD9 := hD.sub (ws' := [(h0, .inr (11, [.ref r0, .ref r1, .ref r2, .ref r3, .ref h1, .ref r4, .ref r5, .ref r6, .ref r7, .ref h2, .ref r8, .ref r9, .ref r10, .ref r11, .int v0, .int v1, .long w2])), (h1, .inr (5, [.ref r12, .ref r13, .int v3, .int v4])), (h2, .inr (9, [.ref r3, .ref h1, .ref r14, .ref h3, .ref h4, .ref h5, .ref h6, .ref r15, .int v5])), (h3, .inl (g0, 10, .inl f6)), (h4, .inl (g1, 10, .inl f7)), (h5, .inl (g2, 10, .inl f8)), (h6, .inl (g3, 10, .inl f9))]) [0, 1, 2, 3, 4, 5, 6] (by decide) rfl
      have hK9 := hK.sub (tys' := []) [] rfl
      exact W.iret (v := (-1)) hx hb hr (fun t ht hW => ⟨⟨(-1), (), rfl, ⟨by first | omega | decide, by first | omega | decide⟩, v5, f6, f7, f8, f9, by first | omega | decide, by first | omega | decide, ia_f7, by rw [ht]; exact hP9, va_K.moved hW.alike hK9, hD9⟩, hS.F ht⟩) hS.2.2 dX11_seen_32
    · skip
      have fc4 : ¬ (ra3.toInt = 0) := fun h9 => c4 (Int32.toInt_inj.mp h9)
      refine lv_iload_n hx hb dX11_seen_21 rfl (lv_at hl 3 rfl) ?_
      refine lv_iconst (v := 0) hx hb dX11_seen_22 (by decide) ?_
      refine lv_bipush (v := 99) hx hb dX11_seen_23 (by decide) ?_
      have hPc := hP.sub (ws' := []) [] rfl
      have hDc := hD.sub (ws' := []) [] (by decide) rfl
      have hKc := hK.sub (tys' := []) [] rfl
      have hFc := va_free (wc := []) hD hS hA [] rfl
      refine va_calli (va_runS (As := [.int v12, .int 0, .int 99]) (rest := []) ⟨hx, hb, hml, hown, hts⟩ (k_X11_within_4 l dC dI v12  H.size) (va_cwS 3 hts g_X11_seen_2 rfl rfl rfl (by decide +kernel) ⟨Nat.le_of_ble_eq_true rfl, Nat.le_of_ble_eq_true rfl⟩) ⟨fun a U g mk q => by obtain ⟨q0, q1, qP, qK, qD⟩ := q; exact ⟨q0, q1, qP, va_K.moved (u := U) (U := U.calling g mk a) (Vm.Alike.refl U.vm) qK, qD⟩, fun U hU hW => ⟨rfl, by rw [hU], by rw [hU]; exact hPc, va_K.moved hW.alike hKc, hDc.weaken (fun _ _ _ _ => trivial)⟩⟩ rfl rfl hl.1 rfl (lv_room (Nat.le_of_ble_eq_true rfl)) dX11_seen_25 ⟨Nat.le_of_ble_eq_true rfl, Nat.le_of_ble_eq_true rfl⟩) hS (fun q _ h => hFc q h) hFc (fun ra5 u t H1 locs ht hvm hwra5 hB hz1 hk1 hS => ?_)
      obtain ⟨hP1, hK1, hD1⟩ := hB
      rw [ht] at hP1
      obtain ⟨hP, hD⟩ := va_join (wr := [(h0, .inr (11, [.ref r0, .ref r1, .ref r2, .ref r3, .ref h1, .ref r4, .ref r5, .ref r6, .ref r7, .ref h2, .ref r8, .ref r9, .ref r10, .ref r11, .int v0, .int v1, .long w2])), (h1, .inr (5, [.ref r12, .ref r13, .int v3, .int v4])), (h2, .inr (9, [.ref r3, .ref h1, .ref r14, .ref h3, .ref h4, .ref h5, .ref h6, .ref r15, .int v5])), (h3, .inl (g0, 10, .inl f6)), (h4, .inl (g1, 10, .inl f7)), (h5, .inl (g2, 10, .inl f8)), (h6, .inl (g3, 10, .inl f9))]) (w1 := []) hP hD [] [0, 1, 2, 3, 4, 5, 6] rfl rfl (by decide) (by decide) hk1 hFc hP1 hD1
      generalize H1 = H at hP hS ⊢
      have hP : va_P (dC, dI) vwCl [(h0, .inr (11, [.ref r0, .ref r1, .ref r2, .ref r3, .ref h1, .ref r4, .ref r5, .ref r6, .ref r7, .ref h2, .ref r8, .ref r9, .ref r10, .ref r11, .int v0, .int v1, .long w2])), (h1, .inr (5, [.ref r12, .ref r13, .int v3, .int v4])), (h2, .inr (9, [.ref r3, .ref h1, .ref r14, .ref h3, .ref h4, .ref h5, .ref h6, .ref r15, .int v5])), (h3, .inl (g0, 10, .inl f6)), (h4, .inl (g1, 10, .inl f7)), (h5, .inl (g2, 10, .inl f8)), (h6, .inl (g3, 10, .inl f9))] H := hP
      have hD : va_D A [(h0, .inr (11, [.ref r0, .ref r1, .ref r2, .ref r3, .ref h1, .ref r4, .ref r5, .ref r6, .ref r7, .ref h2, .ref r8, .ref r9, .ref r10, .ref r11, .int v0, .int v1, .long w2])), (h1, .inr (5, [.ref r12, .ref r13, .int v3, .int v4])), (h2, .inr (9, [.ref r3, .ref h1, .ref r14, .ref h3, .ref h4, .ref h5, .ref h6, .ref r15, .int v5])), (h3, .inl (g0, 10, .inl f6)), (h4, .inl (g1, 10, .inl f7)), (h5, .inl (g2, 10, .inl f8)), (h6, .inl (g3, 10, .inl f9))] := hD
      obtain ⟨wa_ra5, wb_ra5, wc_ra5⟩ := hwra5
      have wa_ra5 : 0 ≤ ra5.toInt := wa_ra5
      have wb_ra5 : ra5.toInt ≤ 1 := wb_ra5
      have wc_ra5 : (ra5.toInt = 1 → 0 ≤ v12.toInt ∧ v12.toInt ≤ 99) := wc_ra5
      refine lv_if_ne (tgt := 33) hx hb dX11_seen_28 (by decide) (fun c6 => ?_) (fun c6 => ?_)
      · skip
        have fc6 : ¬ (ra5.toInt = 0) := fun h9 => c6 (Int32.toInt_inj.mp h9)
        refine lv_aload_n hx hb dX11_seen_33 rfl (lv_at hl 0 rfl) ?_
        refine va_get (D := (dC, dI)) (ci := 11) (v := .ref h2) (C := RX11) (T := TX11) (N := 17) hx hb hts (fun _ h => List.mem_cons_of_mem _ (List.mem_append_left _ (List.mem_append_left _ (List.mem_append_right _ h)))) hown hK hP 0 rfl rfl 9 (by decide) (hts (.fieldLink RX11 79 "LeftArguments" "sightings" "LLeftArguments$Sightings;") (List.mem_cons_of_mem _ (List.mem_append_left _ (List.mem_append_left _ (List.mem_append_left _ (List.mem_of_getElem? (i := 11) rfl)))))) (fun _ h9 => h9) rfl dX11_seen_34 ?_
        refine lv_iload_n hx hb dX11_seen_37 rfl (lv_at hl 1 rfl) ?_
        refine lv_iload_n hx hb dX11_seen_38 rfl (lv_at hl 2 rfl) ?_
        refine lv_iload_n hx hb dX11_seen_39 rfl (lv_at hl 3 rfl) ?_
        refine lv_iload hx hb dX11_seen_40 (lv_at hl 4 rfl) ?_
        have hPc := hP.sub (ws' := [(h2, .inr (9, [.ref r3, .ref h1, .ref r14, .ref h3, .ref h4, .ref h5, .ref h6, .ref r15, .int v5])), (h3, .inl (g0, 10, .inl f6)), (h4, .inl (g1, 10, .inl f7)), (h5, .inl (g2, 10, .inl f8)), (h6, .inl (g3, 10, .inl f9))]) [2, 3, 4, 5, 6] rfl
        have hDc := hD.sub (ws' := [(h2, .inr (9, [.ref r3, .ref h1, .ref r14, .ref h3, .ref h4, .ref h5, .ref h6, .ref r15, .int v5])), (h3, .inl (g0, 10, .inl f6)), (h4, .inl (g1, 10, .inl f7)), (h5, .inl (g2, 10, .inl f8)), (h6, .inl (g3, 10, .inl f9))]) [2, 3, 4, 5, 6] (by decide) rfl
        have hKc := hK.sub (tys' := [(g0, .int), (g1, .int), (g2, .int), (g3, .boolean)]) [0, 1, 2, 3] rfl
        have hFc := va_free (wc := [(h2, .inr (9, [.ref r3, .ref h1, .ref r14, .ref h3, .ref h4, .ref h5, .ref h6, .ref r15, .int v5])), (h3, .inl (g0, 10, .inl f6)), (h4, .inl (g1, 10, .inl f7)), (h5, .inl (g2, 10, .inl f8)), (h6, .inl (g3, 10, .inl f9))]) hD hS hA [2, 3, 4, 5, 6] rfl
        refine va_calli (va_runV (As := [.int v10, .int v11, .int v12, .int v13]) (rest := []) ⟨hx, hb, hml, hown, hts⟩ (k_X9_add l dC dI h2 h3 h4 h5 h6 r3 h1 r14 r15 v5 g0 f6 g1 f7 g2 f8 g3 f9 v10 v11 v12 v13 ⟨by first | omega | decide, by first | omega | decide⟩ ⟨by first | omega | decide, by first | omega | decide⟩ ⟨by first | omega | decide, by first | omega | decide⟩ ia_f7 H.size) (cwV 4 hts g_X11_seen_3 rfl rfl rfl (by decide +kernel) ⟨Nat.le_of_ble_eq_true rfl, Nat.le_of_ble_eq_true rfl⟩) ⟨fun a U g mk q => by obtain ⟨q0, q1, qP, qK, qD⟩ := q; exact ⟨q0, q1, qP, va_K.moved (u := U) (U := U.calling g mk a) (Vm.Alike.refl U.vm) qK, qD⟩, va_recv hKc hPc (ci := 9) (q0 := 0) rfl rfl, fun U hU hW => ⟨rfl, by rw [hU], by rw [hU]; exact hPc, va_K.moved hW.alike hKc, hDc.weaken (fun _ _ _ _ => trivial)⟩⟩ rfl rfl hl.1 rfl (lv_room (Nat.le_of_ble_eq_true rfl)) dX11_seen_42 ⟨Nat.le_of_ble_eq_true rfl, Nat.le_of_ble_eq_true rfl⟩) hS (fun q _ h => hFc q h) hFc (fun ra7 u t H1 locs ht hvm hwra7 hB hz1 hk1 hS => ?_)
        obtain ⟨x8, fn9, fn10, fn11, fn12, oa_x8, ob_x8, ia_fn10, hP1, hK1, hD1⟩ := hB
        rw [ht] at hP1
        obtain ⟨hP, hD⟩ := va_join (wr := [(h0, .inr (11, [.ref r0, .ref r1, .ref r2, .ref r3, .ref h1, .ref r4, .ref r5, .ref r6, .ref r7, .ref h2, .ref r8, .ref r9, .ref r10, .ref r11, .int v0, .int v1, .long w2])), (h1, .inr (5, [.ref r12, .ref r13, .int v3, .int v4]))]) (w1 := [(h2, .inr (9, [.ref r3, .ref h1, .ref r14, .ref h3, .ref h4, .ref h5, .ref h6, .ref r15, .int x8])), (h3, .inl (g0, 10, .inl fn9)), (h4, .inl (g1, 10, .inl fn10)), (h5, .inl (g2, 10, .inl fn11)), (h6, .inl (g3, 10, .inl fn12))]) hP hD [2, 3, 4, 5, 6] [0, 1] rfl rfl (by decide) (by decide) hk1 hFc hP1 hD1
        generalize H1 = H at hP hS ⊢
        have hP : va_P (dC, dI) vwCl [(h0, .inr (11, [.ref r0, .ref r1, .ref r2, .ref r3, .ref h1, .ref r4, .ref r5, .ref r6, .ref r7, .ref h2, .ref r8, .ref r9, .ref r10, .ref r11, .int v0, .int v1, .long w2])), (h1, .inr (5, [.ref r12, .ref r13, .int v3, .int v4])), (h2, .inr (9, [.ref r3, .ref h1, .ref r14, .ref h3, .ref h4, .ref h5, .ref h6, .ref r15, .int x8])), (h3, .inl (g0, 10, .inl fn9)), (h4, .inl (g1, 10, .inl fn10)), (h5, .inl (g2, 10, .inl fn11)), (h6, .inl (g3, 10, .inl fn12))] H := hP
        have hD : va_D A [(h0, .inr (11, [.ref r0, .ref r1, .ref r2, .ref r3, .ref h1, .ref r4, .ref r5, .ref r6, .ref r7, .ref h2, .ref r8, .ref r9, .ref r10, .ref r11, .int v0, .int v1, .long w2])), (h1, .inr (5, [.ref r12, .ref r13, .int v3, .int v4])), (h2, .inr (9, [.ref r3, .ref h1, .ref r14, .ref h3, .ref h4, .ref h5, .ref h6, .ref r15, .int x8])), (h3, .inl (g0, 10, .inl fn9)), (h4, .inl (g1, 10, .inl fn10)), (h5, .inl (g2, 10, .inl fn11)), (h6, .inl (g3, 10, .inl fn12))] := hD
        obtain ⟨wa_ra7, wb_ra7⟩ := hwra7
        have wa_ra7 : -1 ≤ ra7.toInt := wa_ra7
        have wb_ra7 : ra7.toInt ≤ 10 := wb_ra7
        subst hQ
        have hP9 := hP.sub (ws' := [(h0, .inr (11, [.ref r0, .ref r1, .ref r2, .ref r3, .ref h1, .ref r4, .ref r5, .ref r6, .ref r7, .ref h2, .ref r8, .ref r9, .ref r10, .ref r11, .int v0, .int v1, .long w2])), (h1, .inr (5, [.ref r12, .ref r13, .int v3, .int v4])), (h2, .inr (9, [.ref r3, .ref h1, .ref r14, .ref h3, .ref h4, .ref h5, .ref h6, .ref r15, .int x8])), (h3, .inl (g0, 10, .inl fn9)), (h4, .inl (g1, 10, .inl fn10)), (h5, .inl (g2, 10, .inl fn11)), (h6, .inl (g3, 10, .inl fn12))]) [0, 1, 2, 3, 4, 5, 6] rfl
        have hD9 := hD.sub (ws' := [(h0, .inr (11, [.ref r0, .ref r1, .ref r2, .ref r3, .ref h1, .ref r4, .ref r5, .ref r6, .ref r7, .ref h2, .ref r8, .ref r9, .ref r10, .ref r11, .int v0, .int v1, .long w2])), (h1, .inr (5, [.ref r12, .ref r13, .int v3, .int v4])), (h2, .inr (9, [.ref r3, .ref h1, .ref r14, .ref h3, .ref h4, .ref h5, .ref h6, .ref r15, .int x8])), (h3, .inl (g0, 10, .inl fn9)), (h4, .inl (g1, 10, .inl fn10)), (h5, .inl (g2, 10, .inl fn11)), (h6, .inl (g3, 10, .inl fn12))]) [0, 1, 2, 3, 4, 5, 6] (by decide) rfl
        have hK9 := hK.sub (tys' := []) [] rfl
        exact W.iret (v := ra7) hx hb hr (fun t ht hW => ⟨⟨ra7, (), rfl, ⟨by first | omega | decide, by first | omega | decide⟩, x8, fn9, fn10, fn11, fn12, by first | omega | decide, by first | omega | decide, ia_fn10, by rw [ht]; exact hP9, va_K.moved hW.alike hK9, hD9⟩, hS.F ht⟩) hS.2.2 dX11_seen_45
      · skip
        have fc6 : ra5.toInt = 0 := congrArg Int32.toInt c6
        refine lv_iconst (v := (-1)) hx hb dX11_seen_31 (by decide) ?_
        subst hQ
        have hP9 := hP.sub (ws' := [(h0, .inr (11, [.ref r0, .ref r1, .ref r2, .ref r3, .ref h1, .ref r4, .ref r5, .ref r6, .ref r7, .ref h2, .ref r8, .ref r9, .ref r10, .ref r11, .int v0, .int v1, .long w2])), (h1, .inr (5, [.ref r12, .ref r13, .int v3, .int v4])), (h2, .inr (9, [.ref r3, .ref h1, .ref r14, .ref h3, .ref h4, .ref h5, .ref h6, .ref r15, .int v5])), (h3, .inl (g0, 10, .inl f6)), (h4, .inl (g1, 10, .inl f7)), (h5, .inl (g2, 10, .inl f8)), (h6, .inl (g3, 10, .inl f9))]) [0, 1, 2, 3, 4, 5, 6] rfl
        have hD9 := hD.sub (ws' := [(h0, .inr (11, [.ref r0, .ref r1, .ref r2, .ref r3, .ref h1, .ref r4, .ref r5, .ref r6, .ref r7, .ref h2, .ref r8, .ref r9, .ref r10, .ref r11, .int v0, .int v1, .long w2])), (h1, .inr (5, [.ref r12, .ref r13, .int v3, .int v4])), (h2, .inr (9, [.ref r3, .ref h1, .ref r14, .ref h3, .ref h4, .ref h5, .ref h6, .ref r15, .int v5])), (h3, .inl (g0, 10, .inl f6)), (h4, .inl (g1, 10, .inl f7)), (h5, .inl (g2, 10, .inl f8)), (h6, .inl (g3, 10, .inl f9))]) [0, 1, 2, 3, 4, 5, 6] (by decide) rfl
        have hK9 := hK.sub (tys' := []) [] rfl
        exact W.iret (v := (-1)) hx hb hr (fun t ht hW => ⟨⟨(-1), (), rfl, ⟨by first | omega | decide, by first | omega | decide⟩, v5, f6, f7, f8, f9, by first | omega | decide, by first | omega | decide, ia_f7, by rw [ht]; exact hP9, va_K.moved hW.alike hK9, hD9⟩, hS.F ht⟩) hS.2.2 dX11_seen_32
def q_X11_sets : List Cond := .code yX11_sets cX11_sets 3 (some .int) :: (([.fieldLink RX11 49 "LeftArguments" "room" "LLeftArguments$Room;", .code yX7_has cX7_has 2 (some .boolean), .fieldLink RX7 11 "LeftArguments$Room" "cells" "[I", .initialized RX7, .instanceMethod yX7_has, .selects RX7 yX7_has yX7_has, .methodLink RX11 169 yX7_has, .code yX7_setOff cX7_setOff 3 (some .boolean), .code yX7_of cX7_of 3 (some .int), .instanceMethod yX7_of, .selects RX7 yX7_of yX7_of, .methodLink RX7 74 yX7_of, .methodLink RX7 110 Lib.Math.abs.name, .static Lib.Math.abs.name, .initialized "java/lang/Math", .code Lib.Math.abs.name Lib.Math.abs.code 1 (some .int), .instanceMethod yX7_setOff, .selects RX7 yX7_setOff yX7_setOff, .methodLink RX11 309 yX7_setOff] : List Cond) ++ wsX110 ++ wsX70)
set_option maxRecDepth 20000 in
theorem g_X11_sets_0 : GoodIn q_X11_sets (wsV RX11 169 RX7 yX7_has q_X7_has) := goodIn_app (goodIn_r _ [7, 5, 6, 4] (by decide +kernel) (by decide +kernel)) (goodIn_ca (goodIn_r (.code yX7_has cX7_has 2 (some .boolean) :: [.fieldLink RX7 11 "LeftArguments$Room" "cells" "[I"]) [2, 3] (by decide +kernel) (by decide +kernel)) (goodIn_sub (fun _ h => List.mem_cons_of_mem _ (List.mem_append_right _ h)) gwX7))
set_option maxRecDepth 20000 in
theorem g_X11_sets_1 : GoodIn q_X11_sets (wsV RX11 169 RX7 yX7_has q_X7_has) := goodIn_app (goodIn_r _ [7, 5, 6, 4] (by decide +kernel) (by decide +kernel)) (goodIn_ca (goodIn_r (.code yX7_has cX7_has 2 (some .boolean) :: [.fieldLink RX7 11 "LeftArguments$Room" "cells" "[I"]) [2, 3] (by decide +kernel) (by decide +kernel)) (goodIn_sub (fun _ h => List.mem_cons_of_mem _ (List.mem_append_right _ h)) gwX7))
set_option maxRecDepth 20000 in
theorem g_X11_sets_2 : GoodIn q_X11_sets (wsV RX11 309 RX7 yX7_setOff q_X7_setOff) := goodIn_app (goodIn_r _ [19, 17, 18, 4] (by decide +kernel) (by decide +kernel)) (goodIn_ca (goodIn_r (.code yX7_setOff cX7_setOff 3 (some .boolean) :: [.code yX7_of cX7_of 3 (some .int), .fieldLink RX7 11 "LeftArguments$Room" "cells" "[I", .initialized RX7, .instanceMethod yX7_of, .selects RX7 yX7_of yX7_of, .methodLink RX7 74 yX7_of, .methodLink RX7 110 Lib.Math.abs.name, .static Lib.Math.abs.name, .initialized "java/lang/Math", .code Lib.Math.abs.name Lib.Math.abs.code 1 (some .int)]) [8, 9, 3, 4, 10, 11, 12, 13, 14, 15, 16] (by decide +kernel) (by decide +kernel)) (goodIn_sub (fun _ h => List.mem_cons_of_mem _ (List.mem_append_right _ h)) gwX7))
set_option maxHeartbeats 4000000 in
set_option maxRecDepth 100000 in
theorem k_X11_sets (l : Launch) (dC : Nat → ClassId) (dI : Nat → Nat → Nat) (h0 : Nat) (h1 : Nat) (h2 : Nat) (r0 : Nat) (r1 : Nat) (r2 : Nat) (r3 : Nat) (r4 : Nat) (r5 : Nat) (r6 : Nat) (r7 : Nat) (r8 : Nat) (r9 : Nat) (r10 : Nat) (r11 : Nat) (r12 : Nat) (v0 : Int32) (v1 : Int32) (w2 : Int64) (r13 : Nat) (v3 : Int32) (v4 : Int32) (g0 : ClassId) (f5 : Nat → Int32) (v6 : Int32) (v7 : Int32) (i_v0 : 0 ≤ v0.toInt ∧ v0.toInt ≤ 1) (sz : Nat) : Met l yX11_sets q_X11_sets ({ frames := 2, cells := 0, slots := 0, locals := 44 }) (va_Pc [.ref h0, .int v6, .int v7] (fun U => U.heap.size = sz ∧ va_P (dC, dI) vwCl [(h0, .inr (11, [.ref r0, .ref r1, .ref r2, .ref r3, .ref r4, .ref h1, .ref r5, .ref r6, .ref r7, .ref r8, .ref r9, .ref r10, .ref r11, .ref r12, .int v0, .int v1, .long w2])), (h1, .inr (7, [.ref h2, .ref r13, .int v3, .int v4])), (h2, .inl (g0, 58, .inl f5))] U.heap ∧ va_K (dC, dI) vwCl [(g0, .int)] U ∧ va_D (fun _ => True) [(h0, .inr (11, [.ref r0, .ref r1, .ref r2, .ref r3, .ref r4, .ref h1, .ref r5, .ref r6, .ref r7, .ref r8, .ref r9, .ref r10, .ref r11, .ref r12, .int v0, .int v1, .long w2])), (h1, .inr (7, [.ref h2, .ref r13, .int v3, .int v4])), (h2, .inl (g0, 58, .inl f5))])) (va_Qi (fun (r : Int32) (_ : Unit) => -1 ≤ r.toInt ∧ r.toInt ≤ 1) (fun (_ : Unit) (t : State) => va_P (dC, dI) vwCl [(h0, .inr (11, [.ref r0, .ref r1, .ref r2, .ref r3, .ref r4, .ref h1, .ref r5, .ref r6, .ref r7, .ref r8, .ref r9, .ref r10, .ref r11, .ref r12, .int v0, .int v1, .long w2])), (h1, .inr (7, [.ref h2, .ref r13, .int v3, .int v4])), (h2, .inl (g0, 58, .inl f5))] t.heap ∧ va_K (dC, dI) vwCl [] t ∧ va_D (va_A [(h0, .inr (11, [.ref r0, .ref r1, .ref r2, .ref r3, .ref r4, .ref h1, .ref r5, .ref r6, .ref r7, .ref r8, .ref r9, .ref r10, .ref r11, .ref r12, .int v0, .int v1, .long w2])), (h1, .inr (7, [.ref h2, .ref r13, .int v3, .int v4])), (h2, .inl (g0, 58, .inl f5))] sz) [(h0, .inr (11, [.ref r0, .ref r1, .ref r2, .ref r3, .ref r4, .ref h1, .ref r5, .ref r6, .ref r7, .ref r8, .ref r9, .ref r10, .ref r11, .ref r12, .int v0, .int v1, .long w2])), (h1, .inr (7, [.ref h2, .ref r13, .int v3, .int v4])), (h2, .inl (g0, 58, .inl f5))]) (va_A [(h0, .inr (11, [.ref r0, .ref r1, .ref r2, .ref r3, .ref r4, .ref h1, .ref r5, .ref r6, .ref r7, .ref r8, .ref r9, .ref r10, .ref r11, .ref r12, .int v0, .int v1, .long w2])), (h1, .inr (7, [.ref h2, .ref r13, .int v3, .int v4])), (h2, .inl (g0, 58, .inl f5))] sz)) 0 0 (va_A [(h0, .inr (11, [.ref r0, .ref r1, .ref r2, .ref r3, .ref r4, .ref h1, .ref r5, .ref r6, .ref r7, .ref r8, .ref r9, .ref r10, .ref r11, .ref r12, .int v0, .int v1, .long w2])), (h1, .inr (7, [.ref h2, .ref r13, .int v3, .int v4])), (h2, .inl (g0, 58, .inl f5))] sz) := by
  refine Met.ofW (cc := cX11_sets) (maxL := 3) (ret := (some .int)) (by decide) rfl ?_
  intro p e s m args below meth c s₁ B hml hv
  obtain ⟨i_v0a, i_v0b⟩ := i_v0
  obtain ⟨rfl, hsz, hP, hK, hD0⟩ := hv
  have hx := B.exec
  have hb := B.bytes
  have hr := B.returns
  have hts := atoms_spec (ws := q_X11_sets) B.pre
  have hown : s.vm.findClass RX11 = some m.cls := findClass_of_methodNamed B.named
  have hlocks := B.notSynchronized
  subst hsz
  have hD := hD0.self (sz := s.heap.size)
  generalize hAe : va_A [(h0, .inr (11, [.ref r0, .ref r1, .ref r2, .ref r3, .ref r4, .ref h1, .ref r5, .ref r6, .ref r7, .ref r8, .ref r9, .ref r10, .ref r11, .ref r12, .int v0, .int v1, .long w2])), (h1, .inr (7, [.ref h2, .ref r13, .int v3, .int v4])), (h2, .inl (g0, 58, .inl f5))] s.heap.size = A at hD ⊢
  have hA : ∀ q : Nat, s.heap.size ≤ q → A q := fun q h => by rw [← hAe]; exact Or.inr h
  have hS : va_S A s.heap s.heap [] := va_S.rf
  generalize hQ : (MQ below _ _ s 0 0 A) = Q
  have hl := lv_entry ([.ref h0, .int v6, .int v7]) (n := 3) (Nat.le_of_ble_eq_true rfl)
  rw [lg_entry_eq]
  generalize (lg_sl ([.ref h0, .int v6, .int v7]) ++ List.replicate (3 - (lg_sl ([.ref h0, .int v6, .int v7])).length) Slot.unset).toArray = ls at hl ⊢
  have hl : lv_has ls 3 [(0, .ref h0), (1, .int v6), (2, .int v7)] := hl
  obtain ⟨H, hH⟩ : ∃ H : Heap, H = s.heap := ⟨_, rfl⟩
  obtain ⟨locs, hlocs⟩ : ∃ y : List Loc, y = [] := ⟨_, rfl⟩
  have hS : va_S A s.heap H locs := by rw [hH, hlocs]; exact va_S.rf
  have hP : va_P (dC, dI) vwCl [(h0, .inr (11, [.ref r0, .ref r1, .ref r2, .ref r3, .ref r4, .ref h1, .ref r5, .ref r6, .ref r7, .ref r8, .ref r9, .ref r10, .ref r11, .ref r12, .int v0, .int v1, .long w2])), (h1, .inr (7, [.ref h2, .ref r13, .int v3, .int v4])), (h2, .inl (g0, 58, .inl f5))] H := by rw [hH]; exact hP
  rw [← hH, ← hlocs]
  refine lv_aload_n hx hb dX11_sets_0 rfl (lv_at hl 0 rfl) ?_
  refine va_get (D := (dC, dI)) (ci := 11) (v := .ref h1) (C := RX11) (T := TX11) (N := 17) hx hb hts (fun _ h => List.mem_cons_of_mem _ (List.mem_append_left _ (List.mem_append_right _ h))) hown hK hP 0 rfl rfl 5 (by decide) (hts (.fieldLink RX11 49 "LeftArguments" "room" "LLeftArguments$Room;") (List.mem_cons_of_mem _ (List.mem_append_left _ (List.mem_append_left _ (List.mem_of_getElem? (i := 0) rfl))))) (fun _ h9 => h9) rfl dX11_sets_1 ?_
  refine lv_iload_n hx hb dX11_sets_4 rfl (lv_at hl 1 rfl) ?_
  have hPc := hP.sub (ws' := [(h1, .inr (7, [.ref h2, .ref r13, .int v3, .int v4])), (h2, .inl (g0, 58, .inl f5))]) [1, 2] rfl
  have hDc := hD.sub (ws' := [(h1, .inr (7, [.ref h2, .ref r13, .int v3, .int v4])), (h2, .inl (g0, 58, .inl f5))]) [1, 2] (by decide) rfl
  have hKc := hK.sub (tys' := [(g0, .int)]) [0] rfl
  have hFc := va_free (wc := [(h1, .inr (7, [.ref h2, .ref r13, .int v3, .int v4])), (h2, .inl (g0, 58, .inl f5))]) hD hS hA [1, 2] rfl
  refine va_calli (va_runV (As := [.int v6]) (rest := []) ⟨hx, hb, hml, hown, hts⟩ (k_X7_has l dC dI h1 h2 r13 v3 v4 g0 f5 v6  H.size) (cwV 1 hts g_X11_sets_0 rfl rfl rfl (by decide +kernel) ⟨Nat.le_of_ble_eq_true rfl, Nat.le_of_ble_eq_true rfl⟩) ⟨fun a U g mk q => by obtain ⟨q0, q1, qP, qK, qD⟩ := q; exact ⟨q0, q1, qP, va_K.moved (u := U) (U := U.calling g mk a) (Vm.Alike.refl U.vm) qK, qD⟩, va_recv hKc hPc (ci := 7) (q0 := 0) rfl rfl, fun U hU hW => ⟨rfl, by rw [hU], by rw [hU]; exact hPc, va_K.moved hW.alike hKc, hDc.weaken (fun _ _ _ _ => trivial)⟩⟩ rfl rfl hl.1 rfl (lv_room (Nat.le_of_ble_eq_true rfl)) dX11_sets_5 ⟨Nat.le_of_ble_eq_true rfl, Nat.le_of_ble_eq_true rfl⟩) hS (fun q _ h => hFc q h) hFc (fun ra1 u t H1 locs ht hvm hwra1 hB hz1 hk1 hS => ?_)
  obtain ⟨hP1, hK1, hD1⟩ := hB
  rw [ht] at hP1
  obtain ⟨hP, hD⟩ := va_join (wr := [(h0, .inr (11, [.ref r0, .ref r1, .ref r2, .ref r3, .ref r4, .ref h1, .ref r5, .ref r6, .ref r7, .ref r8, .ref r9, .ref r10, .ref r11, .ref r12, .int v0, .int v1, .long w2]))]) (w1 := [(h1, .inr (7, [.ref h2, .ref r13, .int v3, .int v4])), (h2, .inl (g0, 58, .inl f5))]) hP hD [1, 2] [0] rfl rfl (by decide) (by decide) hk1 hFc hP1 hD1
  generalize H1 = H at hP hS ⊢
  have hP : va_P (dC, dI) vwCl [(h0, .inr (11, [.ref r0, .ref r1, .ref r2, .ref r3, .ref r4, .ref h1, .ref r5, .ref r6, .ref r7, .ref r8, .ref r9, .ref r10, .ref r11, .ref r12, .int v0, .int v1, .long w2])), (h1, .inr (7, [.ref h2, .ref r13, .int v3, .int v4])), (h2, .inl (g0, 58, .inl f5))] H := hP
  have hD : va_D A [(h0, .inr (11, [.ref r0, .ref r1, .ref r2, .ref r3, .ref r4, .ref h1, .ref r5, .ref r6, .ref r7, .ref r8, .ref r9, .ref r10, .ref r11, .ref r12, .int v0, .int v1, .long w2])), (h1, .inr (7, [.ref h2, .ref r13, .int v3, .int v4])), (h2, .inl (g0, 58, .inl f5))] := hD
  obtain ⟨wa_ra1, wb_ra1⟩ := hwra1
  have wa_ra1 : 0 ≤ ra1.toInt := wa_ra1
  have wb_ra1 : ra1.toInt ≤ 1 := wb_ra1
  refine lv_if_eq (tgt := 27) hx hb dX11_sets_8 (by decide) (fun c2 => ?_) (fun c2 => ?_)
  · skip
    have fc2 : ra1.toInt = 0 := congrArg Int32.toInt c2
    refine lv_iconst (v := (-1)) hx hb dX11_sets_27 (by decide) ?_
    subst hQ
    have hP9 := hP.sub (ws' := [(h0, .inr (11, [.ref r0, .ref r1, .ref r2, .ref r3, .ref r4, .ref h1, .ref r5, .ref r6, .ref r7, .ref r8, .ref r9, .ref r10, .ref r11, .ref r12, .int v0, .int v1, .long w2])), (h1, .inr (7, [.ref h2, .ref r13, .int v3, .int v4])), (h2, .inl (g0, 58, .inl f5))]) [0, 1, 2] rfl
    have hD9 := hD.sub (ws' := [(h0, .inr (11, [.ref r0, .ref r1, .ref r2, .ref r3, .ref r4, .ref h1, .ref r5, .ref r6, .ref r7, .ref r8, .ref r9, .ref r10, .ref r11, .ref r12, .int v0, .int v1, .long w2])), (h1, .inr (7, [.ref h2, .ref r13, .int v3, .int v4])), (h2, .inl (g0, 58, .inl f5))]) [0, 1, 2] (by decide) rfl
    have hK9 := hK.sub (tys' := []) [] rfl
    exact W.iret (v := (-1)) hx hb hr (fun t ht hW => ⟨⟨(-1), (), rfl, ⟨by first | omega | decide, by first | omega | decide⟩, by rw [ht]; exact hP9, va_K.moved hW.alike hK9, hD9⟩, hS.F ht⟩) hS.2.2 dX11_sets_28
  · skip
    have fc2 : ¬ (ra1.toInt = 0) := fun h9 => c2 (Int32.toInt_inj.mp h9)
    refine lv_aload_n hx hb dX11_sets_11 rfl (lv_at hl 0 rfl) ?_
    refine va_get (D := (dC, dI)) (ci := 11) (v := .ref h1) (C := RX11) (T := TX11) (N := 17) hx hb hts (fun _ h => List.mem_cons_of_mem _ (List.mem_append_left _ (List.mem_append_right _ h))) hown hK hP 0 rfl rfl 5 (by decide) (hts (.fieldLink RX11 49 "LeftArguments" "room" "LLeftArguments$Room;") (List.mem_cons_of_mem _ (List.mem_append_left _ (List.mem_append_left _ (List.mem_of_getElem? (i := 0) rfl))))) (fun _ h9 => h9) rfl dX11_sets_12 ?_
    refine lv_iload_n hx hb dX11_sets_15 rfl (lv_at hl 2 rfl) ?_
    have hPc := hP.sub (ws' := [(h1, .inr (7, [.ref h2, .ref r13, .int v3, .int v4])), (h2, .inl (g0, 58, .inl f5))]) [1, 2] rfl
    have hDc := hD.sub (ws' := [(h1, .inr (7, [.ref h2, .ref r13, .int v3, .int v4])), (h2, .inl (g0, 58, .inl f5))]) [1, 2] (by decide) rfl
    have hKc := hK.sub (tys' := [(g0, .int)]) [0] rfl
    have hFc := va_free (wc := [(h1, .inr (7, [.ref h2, .ref r13, .int v3, .int v4])), (h2, .inl (g0, 58, .inl f5))]) hD hS hA [1, 2] rfl
    refine va_calli (va_runV (As := [.int v7]) (rest := []) ⟨hx, hb, hml, hown, hts⟩ (k_X7_has l dC dI h1 h2 r13 v3 v4 g0 f5 v7  H.size) (cwV 1 hts g_X11_sets_1 rfl rfl rfl (by decide +kernel) ⟨Nat.le_of_ble_eq_true rfl, Nat.le_of_ble_eq_true rfl⟩) ⟨fun a U g mk q => by obtain ⟨q0, q1, qP, qK, qD⟩ := q; exact ⟨q0, q1, qP, va_K.moved (u := U) (U := U.calling g mk a) (Vm.Alike.refl U.vm) qK, qD⟩, va_recv hKc hPc (ci := 7) (q0 := 0) rfl rfl, fun U hU hW => ⟨rfl, by rw [hU], by rw [hU]; exact hPc, va_K.moved hW.alike hKc, hDc.weaken (fun _ _ _ _ => trivial)⟩⟩ rfl rfl hl.1 rfl (lv_room (Nat.le_of_ble_eq_true rfl)) dX11_sets_16 ⟨Nat.le_of_ble_eq_true rfl, Nat.le_of_ble_eq_true rfl⟩) hS (fun q _ h => hFc q h) hFc (fun ra3 u t H1 locs ht hvm hwra3 hB hz1 hk1 hS => ?_)
    obtain ⟨hP1, hK1, hD1⟩ := hB
    rw [ht] at hP1
    obtain ⟨hP, hD⟩ := va_join (wr := [(h0, .inr (11, [.ref r0, .ref r1, .ref r2, .ref r3, .ref r4, .ref h1, .ref r5, .ref r6, .ref r7, .ref r8, .ref r9, .ref r10, .ref r11, .ref r12, .int v0, .int v1, .long w2]))]) (w1 := [(h1, .inr (7, [.ref h2, .ref r13, .int v3, .int v4])), (h2, .inl (g0, 58, .inl f5))]) hP hD [1, 2] [0] rfl rfl (by decide) (by decide) hk1 hFc hP1 hD1
    generalize H1 = H at hP hS ⊢
    have hP : va_P (dC, dI) vwCl [(h0, .inr (11, [.ref r0, .ref r1, .ref r2, .ref r3, .ref r4, .ref h1, .ref r5, .ref r6, .ref r7, .ref r8, .ref r9, .ref r10, .ref r11, .ref r12, .int v0, .int v1, .long w2])), (h1, .inr (7, [.ref h2, .ref r13, .int v3, .int v4])), (h2, .inl (g0, 58, .inl f5))] H := hP
    have hD : va_D A [(h0, .inr (11, [.ref r0, .ref r1, .ref r2, .ref r3, .ref r4, .ref h1, .ref r5, .ref r6, .ref r7, .ref r8, .ref r9, .ref r10, .ref r11, .ref r12, .int v0, .int v1, .long w2])), (h1, .inr (7, [.ref h2, .ref r13, .int v3, .int v4])), (h2, .inl (g0, 58, .inl f5))] := hD
    obtain ⟨wa_ra3, wb_ra3⟩ := hwra3
    have wa_ra3 : 0 ≤ ra3.toInt := wa_ra3
    have wb_ra3 : ra3.toInt ≤ 1 := wb_ra3
    refine lv_if_eq (tgt := 27) hx hb dX11_sets_19 (by decide) (fun c4 => ?_) (fun c4 => ?_)
    · skip
      have fc4 : ra3.toInt = 0 := congrArg Int32.toInt c4
      refine lv_iconst (v := (-1)) hx hb dX11_sets_27 (by decide) ?_
      subst hQ
      have hP9 := hP.sub (ws' := [(h0, .inr (11, [.ref r0, .ref r1, .ref r2, .ref r3, .ref r4, .ref h1, .ref r5, .ref r6, .ref r7, .ref r8, .ref r9, .ref r10, .ref r11, .ref r12, .int v0, .int v1, .long w2])), (h1, .inr (7, [.ref h2, .ref r13, .int v3, .int v4])), (h2, .inl (g0, 58, .inl f5))]) [0, 1, 2] rfl
      have hD9 := hD.sub (ws' := [(h0, .inr (11, [.ref r0, .ref r1, .ref r2, .ref r3, .ref r4, .ref h1, .ref r5, .ref r6, .ref r7, .ref r8, .ref r9, .ref r10, .ref r11, .ref r12, .int v0, .int v1, .long w2])), (h1, .inr (7, [.ref h2, .ref r13, .int v3, .int v4])), (h2, .inl (g0, 58, .inl f5))]) [0, 1, 2] (by decide) rfl
      have hK9 := hK.sub (tys' := []) [] rfl
      exact W.iret (v := (-1)) hx hb hr (fun t ht hW => ⟨⟨(-1), (), rfl, ⟨by first | omega | decide, by first | omega | decide⟩, by rw [ht]; exact hP9, va_K.moved hW.alike hK9, hD9⟩, hS.F ht⟩) hS.2.2 dX11_sets_28
    · skip
      have fc4 : ¬ (ra3.toInt = 0) := fun h9 => c4 (Int32.toInt_inj.mp h9)
      refine lv_iload_n hx hb dX11_sets_22 rfl (lv_at hl 1 rfl) ?_
      refine lv_iload_n hx hb dX11_sets_23 rfl (lv_at hl 2 rfl) ?_
      refine lv_icmp_ne (tgt := 29) hx hb dX11_sets_24 (by decide) (fun c5 => ?_) (fun c5 => ?_)
      · skip
        have fc5 : ¬ (v6.toInt = v7.toInt) := fun h9 => c5 (Int32.toInt_inj.mp h9)
        have r1c5 := Int32.toInt_lt v6
        have r2c5 := Int32.toInt_lt v7
        have r3c5 := Int32.le_toInt v6
        have r4c5 := Int32.le_toInt v7
        refine lv_aload_n hx hb dX11_sets_29 rfl (lv_at hl 0 rfl) ?_
        refine va_get (D := (dC, dI)) (ci := 11) (v := .ref h1) (C := RX11) (T := TX11) (N := 17) hx hb hts (fun _ h => List.mem_cons_of_mem _ (List.mem_append_left _ (List.mem_append_right _ h))) hown hK hP 0 rfl rfl 5 (by decide) (hts (.fieldLink RX11 49 "LeftArguments" "room" "LLeftArguments$Room;") (List.mem_cons_of_mem _ (List.mem_append_left _ (List.mem_append_left _ (List.mem_of_getElem? (i := 0) rfl))))) (fun _ h9 => h9) rfl dX11_sets_30 ?_
        refine lv_iload_n hx hb dX11_sets_33 rfl (lv_at hl 1 rfl) ?_
        refine lv_iload_n hx hb dX11_sets_34 rfl (lv_at hl 2 rfl) ?_
        have hPc := hP.sub (ws' := [(h1, .inr (7, [.ref h2, .ref r13, .int v3, .int v4])), (h2, .inl (g0, 58, .inl f5))]) [1, 2] rfl
        have hDc := hD.sub (ws' := [(h1, .inr (7, [.ref h2, .ref r13, .int v3, .int v4])), (h2, .inl (g0, 58, .inl f5))]) [1, 2] (by decide) rfl
        have hKc := hK.sub (tys' := [(g0, .int)]) [0] rfl
        have hFc := va_free (wc := [(h1, .inr (7, [.ref h2, .ref r13, .int v3, .int v4])), (h2, .inl (g0, 58, .inl f5))]) hD hS hA [1, 2] rfl
        refine va_calli (va_runV (As := [.int v6, .int v7]) (rest := []) ⟨hx, hb, hml, hown, hts⟩ (k_X7_setOff l dC dI h1 h2 r13 v3 v4 g0 f5 v6 v7  H.size) (cwV 2 hts g_X11_sets_2 rfl rfl rfl (by decide +kernel) ⟨Nat.le_of_ble_eq_true rfl, Nat.le_of_ble_eq_true rfl⟩) ⟨fun a U g mk q => by obtain ⟨q0, q1, qP, qK, qD⟩ := q; exact ⟨q0, q1, qP, va_K.moved (u := U) (U := U.calling g mk a) (Vm.Alike.refl U.vm) qK, qD⟩, va_recv hKc hPc (ci := 7) (q0 := 0) rfl rfl, fun U hU hW => ⟨rfl, by rw [hU], by rw [hU]; exact hPc, va_K.moved hW.alike hKc, hDc.weaken (fun _ _ _ _ => trivial)⟩⟩ rfl rfl hl.1 rfl (lv_room (Nat.le_of_ble_eq_true rfl)) dX11_sets_35 ⟨Nat.le_of_ble_eq_true rfl, Nat.le_of_ble_eq_true rfl⟩) hS (fun q _ h => hFc q h) hFc (fun ra6 u t H1 locs ht hvm hwra6 hB hz1 hk1 hS => ?_)
        obtain ⟨hP1, hK1, hD1⟩ := hB
        rw [ht] at hP1
        obtain ⟨hP, hD⟩ := va_join (wr := [(h0, .inr (11, [.ref r0, .ref r1, .ref r2, .ref r3, .ref r4, .ref h1, .ref r5, .ref r6, .ref r7, .ref r8, .ref r9, .ref r10, .ref r11, .ref r12, .int v0, .int v1, .long w2]))]) (w1 := [(h1, .inr (7, [.ref h2, .ref r13, .int v3, .int v4])), (h2, .inl (g0, 58, .inl f5))]) hP hD [1, 2] [0] rfl rfl (by decide) (by decide) hk1 hFc hP1 hD1
        generalize H1 = H at hP hS ⊢
        have hP : va_P (dC, dI) vwCl [(h0, .inr (11, [.ref r0, .ref r1, .ref r2, .ref r3, .ref r4, .ref h1, .ref r5, .ref r6, .ref r7, .ref r8, .ref r9, .ref r10, .ref r11, .ref r12, .int v0, .int v1, .long w2])), (h1, .inr (7, [.ref h2, .ref r13, .int v3, .int v4])), (h2, .inl (g0, 58, .inl f5))] H := hP
        have hD : va_D A [(h0, .inr (11, [.ref r0, .ref r1, .ref r2, .ref r3, .ref r4, .ref h1, .ref r5, .ref r6, .ref r7, .ref r8, .ref r9, .ref r10, .ref r11, .ref r12, .int v0, .int v1, .long w2])), (h1, .inr (7, [.ref h2, .ref r13, .int v3, .int v4])), (h2, .inl (g0, 58, .inl f5))] := hD
        obtain ⟨wa_ra6, wb_ra6⟩ := hwra6
        have wa_ra6 : 0 ≤ ra6.toInt := wa_ra6
        have wb_ra6 : ra6.toInt ≤ 1 := wb_ra6
        have hJ8 : ∀ (x7 : Int32) (H : Heap) (locs : List Loc) (ls : Array Slot), 0 ≤ x7.toInt → x7.toInt ≤ 1 → va_P (dC, dI) vwCl [(h0, .inr (11, [.ref r0, .ref r1, .ref r2, .ref r3, .ref r4, .ref h1, .ref r5, .ref r6, .ref r7, .ref r8, .ref r9, .ref r10, .ref r11, .ref r12, .int v0, .int v1, .long w2])), (h1, .inr (7, [.ref h2, .ref r13, .int v3, .int v4])), (h2, .inl (g0, 58, .inl f5))] H → va_D A [(h0, .inr (11, [.ref r0, .ref r1, .ref r2, .ref r3, .ref r4, .ref h1, .ref r5, .ref r6, .ref r7, .ref r8, .ref r9, .ref r10, .ref r11, .ref r12, .int v0, .int v1, .long w2])), (h1, .inr (7, [.ref h2, .ref r13, .int v3, .int v4])), (h2, .inl (g0, 58, .inl f5))] → va_S A s.heap H locs → lv_has ls 3 [(0, .ref h0), (1, .int v6), (2, .int v7)] → W p l e ({ frames := 2, cells := 0, slots := 0, locals := 44 }) s m ([.ref h0, .int v6, .int v7] : List Value).toArray below meth c H locs 0 0 Q (F0 m 46 ls [.int x7]) := by
          intro x7 H locs ls qa_x7 qb_x7 hP hD hS hl
          subst hQ
          have hP9 := hP.sub (ws' := [(h0, .inr (11, [.ref r0, .ref r1, .ref r2, .ref r3, .ref r4, .ref h1, .ref r5, .ref r6, .ref r7, .ref r8, .ref r9, .ref r10, .ref r11, .ref r12, .int v0, .int v1, .long w2])), (h1, .inr (7, [.ref h2, .ref r13, .int v3, .int v4])), (h2, .inl (g0, 58, .inl f5))]) [0, 1, 2] rfl
          have hD9 := hD.sub (ws' := [(h0, .inr (11, [.ref r0, .ref r1, .ref r2, .ref r3, .ref r4, .ref h1, .ref r5, .ref r6, .ref r7, .ref r8, .ref r9, .ref r10, .ref r11, .ref r12, .int v0, .int v1, .long w2])), (h1, .inr (7, [.ref h2, .ref r13, .int v3, .int v4])), (h2, .inl (g0, 58, .inl f5))]) [0, 1, 2] (by decide) rfl
          have hK9 := hK.sub (tys' := []) [] rfl
          exact W.iret (v := x7) hx hb hr (fun t ht hW => ⟨⟨x7, (), rfl, ⟨by first | omega | decide, by first | omega | decide⟩, by rw [ht]; exact hP9, va_K.moved hW.alike hK9, hD9⟩, hS.F ht⟩) hS.2.2 dX11_sets_46
        refine lv_if_eq (tgt := 45) hx hb dX11_sets_38 (by decide) (fun c9 => ?_) (fun c9 => ?_)
        · skip
          have fc9 : ra6.toInt = 0 := congrArg Int32.toInt c9
          refine lv_iconst (v := 0) hx hb dX11_sets_45 (by decide) ?_
          exact hJ8 0 H locs ls (by first | omega | decide) (by first | omega | decide) hP hD hS (lv_sub hl [0, 1, 2] rfl)
        · skip
          have fc9 : ¬ (ra6.toInt = 0) := fun h9 => c9 (Int32.toInt_inj.mp h9)
          refine lv_iconst (v := 1) hx hb dX11_sets_41 (by decide) ?_
          refine lv_goto (tgt := 46) hx hb dX11_sets_42 (by decide) ?_
          exact hJ8 1 H locs ls (by first | omega | decide) (by first | omega | decide) hP hD hS (lv_sub hl [0, 1, 2] rfl)
      · skip
        have fc5 : v6.toInt = v7.toInt := congrArg Int32.toInt c5
        have r1c5 := Int32.toInt_lt v6
        have r2c5 := Int32.toInt_lt v7
        have r3c5 := Int32.le_toInt v6
        have r4c5 := Int32.le_toInt v7
        refine lv_iconst (v := (-1)) hx hb dX11_sets_27 (by decide) ?_
        subst hQ
        have hP9 := hP.sub (ws' := [(h0, .inr (11, [.ref r0, .ref r1, .ref r2, .ref r3, .ref r4, .ref h1, .ref r5, .ref r6, .ref r7, .ref r8, .ref r9, .ref r10, .ref r11, .ref r12, .int v0, .int v1, .long w2])), (h1, .inr (7, [.ref h2, .ref r13, .int v3, .int v4])), (h2, .inl (g0, 58, .inl f5))]) [0, 1, 2] rfl
        have hD9 := hD.sub (ws' := [(h0, .inr (11, [.ref r0, .ref r1, .ref r2, .ref r3, .ref r4, .ref h1, .ref r5, .ref r6, .ref r7, .ref r8, .ref r9, .ref r10, .ref r11, .ref r12, .int v0, .int v1, .long w2])), (h1, .inr (7, [.ref h2, .ref r13, .int v3, .int v4])), (h2, .inl (g0, 58, .inl f5))]) [0, 1, 2] (by decide) rfl
        have hK9 := hK.sub (tys' := []) [] rfl
        exact W.iret (v := (-1)) hx hb hr (fun t ht hW => ⟨⟨(-1), (), rfl, ⟨by first | omega | decide, by first | omega | decide⟩, by rw [ht]; exact hP9, va_K.moved hW.alike hK9, hD9⟩, hS.F ht⟩) hS.2.2 dX11_sets_28
def q_X7_quarrels : List Cond := .code yX7_quarrels cX7_quarrels 3 (some .int) :: (([.code yX7_has cX7_has 2 (some .boolean), .fieldLink RX7 11 "LeftArguments$Room" "cells" "[I", .initialized RX7, .instanceMethod yX7_has, .selects RX7 yX7_has yX7_has, .methodLink RX7 70 yX7_has, .code yX7_circleOf cX7_circleOf 4 (some .int), .code yX7_setOff cX7_setOff 3 (some .boolean), .code yX7_of cX7_of 3 (some .int), .instanceMethod yX7_of, .selects RX7 yX7_of yX7_of, .methodLink RX7 74 yX7_of, .methodLink RX7 110 Lib.Math.abs.name, .static Lib.Math.abs.name, .initialized "java/lang/Math", .code Lib.Math.abs.name Lib.Math.abs.code 1 (some .int), .instanceMethod yX7_setOff, .selects RX7 yX7_setOff yX7_setOff, .methodLink RX7 113 yX7_setOff, .instanceMethod yX7_circleOf, .selects RX7 yX7_circleOf yX7_circleOf, .methodLink RX7 117 yX7_circleOf, .code yJ6_bitCount_0f7a4 cJ6_bitCount_0f7a4 1 (some .int), .constant RJ6 265 (1431655765), .constant RJ6 266 (858993459), .constant RJ6 267 (252645135), .initialized RJ6, .static yJ6_bitCount_0f7a4, .methodLink RX7 120 yJ6_bitCount_0f7a4] : List Cond) ++ wsX70)
set_option maxRecDepth 20000 in
theorem g_X7_quarrels_0 : GoodIn q_X7_quarrels (wsV RX7 70 RX7 yX7_has q_X7_has) := goodIn_app (goodIn_r _ [6, 4, 5, 3] (by decide +kernel) (by decide +kernel)) (goodIn_ca (goodIn_r (.code yX7_has cX7_has 2 (some .boolean) :: [.fieldLink RX7 11 "LeftArguments$Room" "cells" "[I"]) [1, 2] (by decide +kernel) (by decide +kernel)) (goodIn_sub (fun _ h => List.mem_cons_of_mem _ (List.mem_append_right _ h)) gwX7))
set_option maxRecDepth 20000 in
theorem g_X7_quarrels_1 : GoodIn q_X7_quarrels (wsV RX7 117 RX7 yX7_circleOf q_X7_circleOf) := goodIn_app (goodIn_r _ [22, 20, 21, 3] (by decide +kernel) (by decide +kernel)) (goodIn_ca (goodIn_r (.code yX7_circleOf cX7_circleOf 4 (some .int) :: [.code yX7_has cX7_has 2 (some .boolean), .fieldLink RX7 11 "LeftArguments$Room" "cells" "[I", .initialized RX7, .instanceMethod yX7_has, .selects RX7 yX7_has yX7_has, .methodLink RX7 70 yX7_has, .code yX7_setOff cX7_setOff 3 (some .boolean), .code yX7_of cX7_of 3 (some .int), .instanceMethod yX7_of, .selects RX7 yX7_of yX7_of, .methodLink RX7 74 yX7_of, .methodLink RX7 110 Lib.Math.abs.name, .static Lib.Math.abs.name, .initialized "java/lang/Math", .code Lib.Math.abs.name Lib.Math.abs.code 1 (some .int), .instanceMethod yX7_setOff, .selects RX7 yX7_setOff yX7_setOff, .methodLink RX7 113 yX7_setOff]) [7, 1, 2, 3, 4, 5, 6, 8, 9, 10, 11, 12, 13, 14, 15, 16, 17, 18, 19] (by decide +kernel) (by decide +kernel)) (goodIn_sub (fun _ h => List.mem_cons_of_mem _ (List.mem_append_right _ h)) gwX7))
set_option maxRecDepth 20000 in
theorem g_X7_quarrels_2 : GoodIn q_X7_quarrels (va_wsS RX7 120 yJ6_bitCount_0f7a4 q_J6_bitCount_0f7a4) := goodIn_app (goodIn_r _ [29, 28, 27] (by decide +kernel) (by decide +kernel)) (goodIn_r (.code yJ6_bitCount_0f7a4 cJ6_bitCount_0f7a4 1 (some .int) :: [.constant RJ6 265 (1431655765), .constant RJ6 266 (858993459), .constant RJ6 267 (252645135)]) [23, 24, 25, 26] (by decide +kernel) (by decide +kernel))
set_option maxHeartbeats 4000000 in
set_option maxRecDepth 100000 in
theorem k_X7_quarrels (l : Launch) (dC : Nat → ClassId) (dI : Nat → Nat → Nat) (h0 : Nat) (h1 : Nat) (r0 : Nat) (v0 : Int32) (v1 : Int32) (g0 : ClassId) (f2 : Nat → Int32) (sz : Nat) : Met l yX7_quarrels q_X7_quarrels ({ frames := 3, cells := 0, slots := 0, locals := 67 }) (va_Pc [.ref h0] (fun U => U.heap.size = sz ∧ va_P (dC, dI) vwCl [(h0, .inr (7, [.ref h1, .ref r0, .int v0, .int v1])), (h1, .inl (g0, 58, .inl f2))] U.heap ∧ va_K (dC, dI) vwCl [(g0, .int)] U ∧ va_D (fun _ => True) [(h0, .inr (7, [.ref h1, .ref r0, .int v0, .int v1])), (h1, .inl (g0, 58, .inl f2))])) (va_Qi (fun (r : Int32) (_ : Unit) => -1073741824 ≤ r.toInt ∧ r.toInt ≤ 1073741824) (fun (_ : Unit) (t : State) => va_P (dC, dI) vwCl [(h0, .inr (7, [.ref h1, .ref r0, .int v0, .int v1])), (h1, .inl (g0, 58, .inl f2))] t.heap ∧ va_K (dC, dI) vwCl [] t ∧ va_D (va_A [(h0, .inr (7, [.ref h1, .ref r0, .int v0, .int v1])), (h1, .inl (g0, 58, .inl f2))] sz) [(h0, .inr (7, [.ref h1, .ref r0, .int v0, .int v1])), (h1, .inl (g0, 58, .inl f2))]) (va_A [(h0, .inr (7, [.ref h1, .ref r0, .int v0, .int v1])), (h1, .inl (g0, 58, .inl f2))] sz)) 0 0 (va_A [(h0, .inr (7, [.ref h1, .ref r0, .int v0, .int v1])), (h1, .inl (g0, 58, .inl f2))] sz) := by
  refine Met.ofW (cc := cX7_quarrels) (maxL := 3) (ret := (some .int)) (by decide) rfl ?_
  intro p e s m args below meth c s₁ B hml hv
  obtain ⟨rfl, hsz, hP, hK, hD0⟩ := hv
  have hx := B.exec
  have hb := B.bytes
  have hr := B.returns
  have hts := atoms_spec (ws := q_X7_quarrels) B.pre
  have hown : s.vm.findClass RX7 = some m.cls := findClass_of_methodNamed B.named
  have hlocks := B.notSynchronized
  subst hsz
  have hD := hD0.self (sz := s.heap.size)
  generalize hAe : va_A [(h0, .inr (7, [.ref h1, .ref r0, .int v0, .int v1])), (h1, .inl (g0, 58, .inl f2))] s.heap.size = A at hD ⊢
  have hA : ∀ q : Nat, s.heap.size ≤ q → A q := fun q h => by rw [← hAe]; exact Or.inr h
  have hS : va_S A s.heap s.heap [] := va_S.rf
  generalize hQ : (MQ below _ _ s 0 0 A) = Q
  have hl := lv_entry ([.ref h0]) (n := 3) (Nat.le_of_ble_eq_true rfl)
  rw [lg_entry_eq]
  generalize (lg_sl ([.ref h0]) ++ List.replicate (3 - (lg_sl ([.ref h0])).length) Slot.unset).toArray = ls at hl ⊢
  have hl : lv_has ls 3 [(0, .ref h0)] := hl
  obtain ⟨H, hH⟩ : ∃ H : Heap, H = s.heap := ⟨_, rfl⟩
  obtain ⟨locs, hlocs⟩ : ∃ y : List Loc, y = [] := ⟨_, rfl⟩
  have hS : va_S A s.heap H locs := by rw [hH, hlocs]; exact va_S.rf
  have hP : va_P (dC, dI) vwCl [(h0, .inr (7, [.ref h1, .ref r0, .int v0, .int v1])), (h1, .inl (g0, 58, .inl f2))] H := by rw [hH]; exact hP
  rw [← hH, ← hlocs]
  refine lv_iconst (v := 0) hx hb dX7_quarrels_0 (by decide) ?_
  refine lv_istore_n (lv' := [(1, .int 0), (0, .ref h0)]) hx hb dX7_quarrels_1 rfl hl (by decide) rfl (fun ls hl => ?_)
  refine lv_iconst (v := 0) hx hb dX7_quarrels_2 (by decide) ?_
  refine lv_istore_n (lv' := [(2, .int 0), (1, .int 0), (0, .ref h0)]) hx hb dX7_quarrels_3 rfl hl (by decide) rfl (fun ls hl => ?_)
  have hL13 : ∀ (n9 : Nat), ∀ (x9 : Int32) (x10 : Int32) (H : Heap) (locs : List Loc) (ls : Array Slot), 0 ≤ x9.toInt → x9.toInt ≤ 8 → (8 - x9.toInt).toNat < n9 → va_P (dC, dI) vwCl [(h0, .inr (7, [.ref h1, .ref r0, .int v0, .int v1])), (h1, .inl (g0, 58, .inl f2))] H → va_D A [(h0, .inr (7, [.ref h1, .ref r0, .int v0, .int v1])), (h1, .inl (g0, 58, .inl f2))] → va_S A s.heap H locs → lv_has ls 3 [(2, .int x9), (1, .int x10), (0, .ref h0)] → W p l e ({ frames := 3, cells := 0, slots := 0, locals := 67 }) s m ([.ref h0] : List Value).toArray below meth c H locs 0 0 Q (F0 m 4 ls []) := by
    intro n9
    induction n9 with
    | zero => intro x9 x10 H locs ls qa_x9 qb_x9 hm9 hP hD hS hl; exact absurd hm9 (Nat.not_lt_zero _)
    | succ n9 ih =>
      intro x9 x10 H locs ls qa_x9 qb_x9 hm9 hP hD hS hl
      refine lv_iload_n hx hb dX7_quarrels_4 rfl (lv_at hl 0 rfl) ?_
      refine lv_bipush (v := 8) hx hb dX7_quarrels_5 (by decide) ?_
      refine lv_icmp_ge (tgt := 37) hx hb dX7_quarrels_7 (by decide) (fun c14 => ?_) (fun c14 => ?_)
      · skip
        have fc14 : 8 ≤ x9.toInt := Int32.le_iff_toInt_le.mp c14
        refine lv_iload_n hx hb dX7_quarrels_37 rfl (lv_at hl 1 rfl) ?_
        refine lv_iconst (v := 2) hx hb dX7_quarrels_38 (by decide) ?_
        refine lv_idiv hx hb dX7_quarrels_39 (by decide) ?_
        refine lv_topi (fun t15 et15 => ?_)
        obtain ⟨gat15, gbt15⟩ := pv_dv2 et15 (by decide)
        subst hQ
        have hP9 := hP.sub (ws' := [(h0, .inr (7, [.ref h1, .ref r0, .int v0, .int v1])), (h1, .inl (g0, 58, .inl f2))]) [0, 1] rfl
        have hD9 := hD.sub (ws' := [(h0, .inr (7, [.ref h1, .ref r0, .int v0, .int v1])), (h1, .inl (g0, 58, .inl f2))]) [0, 1] (by decide) rfl
        have hK9 := hK.sub (tys' := []) [] rfl
        exact W.iret (v := t15) hx hb hr (fun t ht hW => ⟨⟨t15, (), rfl, ⟨by first | omega | decide, by first | omega | decide⟩, by rw [ht]; exact hP9, va_K.moved hW.alike hK9, hD9⟩, hS.F ht⟩) hS.2.2 dX7_quarrels_40
      · skip
        have fc14 : ¬ (8 ≤ x9.toInt) := fun h9 => c14 (Int32.le_iff_toInt_le.mpr h9)
        refine lv_aload_n hx hb dX7_quarrels_10 rfl (lv_at hl 2 rfl) ?_
        refine lv_iload_n hx hb dX7_quarrels_11 rfl (lv_at hl 0 rfl) ?_
        have hPc := hP.sub (ws' := [(h0, .inr (7, [.ref h1, .ref r0, .int v0, .int v1])), (h1, .inl (g0, 58, .inl f2))]) [0, 1] rfl
        have hDc := hD.sub (ws' := [(h0, .inr (7, [.ref h1, .ref r0, .int v0, .int v1])), (h1, .inl (g0, 58, .inl f2))]) [0, 1] (by decide) rfl
        have hKc := hK.sub (tys' := [(g0, .int)]) [0] rfl
        have hFc := va_free (wc := [(h0, .inr (7, [.ref h1, .ref r0, .int v0, .int v1])), (h1, .inl (g0, 58, .inl f2))]) hD hS hA [0, 1] rfl
        refine va_calli (va_runV (As := [.int x9]) (rest := []) ⟨hx, hb, hml, hown, hts⟩ (k_X7_has l dC dI h0 h1 r0 v0 v1 g0 f2 x9  H.size) (cwV 1 hts g_X7_quarrels_0 rfl rfl rfl (by decide +kernel) ⟨Nat.le_of_ble_eq_true rfl, Nat.le_of_ble_eq_true rfl⟩) ⟨fun a U g mk q => by obtain ⟨q0, q1, qP, qK, qD⟩ := q; exact ⟨q0, q1, qP, va_K.moved (u := U) (U := U.calling g mk a) (Vm.Alike.refl U.vm) qK, qD⟩, va_recv hKc hPc (ci := 7) (q0 := 0) rfl rfl, fun U hU hW => ⟨rfl, by rw [hU], by rw [hU]; exact hPc, va_K.moved hW.alike hKc, hDc.weaken (fun _ _ _ _ => trivial)⟩⟩ rfl rfl hl.1 rfl (lv_room (Nat.le_of_ble_eq_true rfl)) dX7_quarrels_12 ⟨Nat.le_of_ble_eq_true rfl, Nat.le_of_ble_eq_true rfl⟩) hS (fun q _ h => hFc q h) hFc (fun ra16 u t H1 locs ht hvm hwra16 hB hz1 hk1 hS => ?_)
        obtain ⟨hP1, hK1, hD1⟩ := hB
        rw [ht] at hP1
        obtain ⟨hP, hD⟩ := va_join (wr := []) (w1 := [(h0, .inr (7, [.ref h1, .ref r0, .int v0, .int v1])), (h1, .inl (g0, 58, .inl f2))]) hP hD [0, 1] [] rfl rfl (by decide) (by decide) hk1 hFc hP1 hD1
        generalize H1 = H at hP hS ⊢
        have hP : va_P (dC, dI) vwCl [(h0, .inr (7, [.ref h1, .ref r0, .int v0, .int v1])), (h1, .inl (g0, 58, .inl f2))] H := hP
        have hD : va_D A [(h0, .inr (7, [.ref h1, .ref r0, .int v0, .int v1])), (h1, .inl (g0, 58, .inl f2))] := hD
        obtain ⟨wa_ra16, wb_ra16⟩ := hwra16
        have wa_ra16 : 0 ≤ ra16.toInt := wa_ra16
        have wb_ra16 : ra16.toInt ≤ 1 := wb_ra16
        have hJ18 : ∀ (x17 : Int32) (H : Heap) (locs : List Loc) (ls : Array Slot), va_P (dC, dI) vwCl [(h0, .inr (7, [.ref h1, .ref r0, .int v0, .int v1])), (h1, .inl (g0, 58, .inl f2))] H → va_D A [(h0, .inr (7, [.ref h1, .ref r0, .int v0, .int v1])), (h1, .inl (g0, 58, .inl f2))] → va_S A s.heap H locs → lv_has ls 3 [(2, .int x9), (1, .int x17), (0, .ref h0)] → W p l e ({ frames := 3, cells := 0, slots := 0, locals := 67 }) s m ([.ref h0] : List Value).toArray below meth c H locs 0 0 Q (F0 m 31 ls []) := by
          intro x17 H locs ls hP hD hS hl
          obtain ⟨t19, et19⟩ : ∃ y : Int32, y = x9 + 1 := ⟨_, rfl⟩
          have gt19 : t19.toInt = x9.toInt + (1) := pv_add (a := x9.toInt) (b := (1)) et19 rfl (by decide) (by omega) (by omega)
          refine lv_iinc (v := t19) (lv' := [(2, .int t19), (1, .int x17), (0, .ref h0)]) hx hb dX7_quarrels_31 hl (k := 0) rfl (by rw [et19]; rfl) (by decide) rfl (fun ls hl => ?_)
          refine lv_goto (tgt := 4) hx hb dX7_quarrels_34 (by decide) ?_
          exact ih t19 x17 H locs ls (by first | omega | decide) (by first | omega | decide) (by first | omega | (simp only [Int.toNat] at *; omega)) hP hD hS (lv_sub hl [0, 1, 2] rfl)
        refine lv_if_eq (tgt := 31) hx hb dX7_quarrels_15 (by decide) (fun c20 => ?_) (fun c20 => ?_)
        · skip
          have fc20 : ra16.toInt = 0 := congrArg Int32.toInt c20
          exact hJ18 x10 H locs ls hP hD hS (lv_sub hl [0, 1, 2] rfl)
        · skip
          have fc20 : ¬ (ra16.toInt = 0) := fun h9 => c20 (Int32.toInt_inj.mp h9)
          refine lv_iload_n hx hb dX7_quarrels_18 rfl (lv_at hl 1 rfl) ?_
          refine lv_aload_n hx hb dX7_quarrels_19 rfl (lv_at hl 2 rfl) ?_
          refine lv_iload_n hx hb dX7_quarrels_20 rfl (lv_at hl 0 rfl) ?_
          have hPc := hP.sub (ws' := [(h0, .inr (7, [.ref h1, .ref r0, .int v0, .int v1])), (h1, .inl (g0, 58, .inl f2))]) [0, 1] rfl
          have hDc := hD.sub (ws' := [(h0, .inr (7, [.ref h1, .ref r0, .int v0, .int v1])), (h1, .inl (g0, 58, .inl f2))]) [0, 1] (by decide) rfl
          have hKc := hK.sub (tys' := [(g0, .int)]) [0] rfl
          have hFc := va_free (wc := [(h0, .inr (7, [.ref h1, .ref r0, .int v0, .int v1])), (h1, .inl (g0, 58, .inl f2))]) hD hS hA [0, 1] rfl
          refine va_calli (va_runV (As := [.int x9]) (rest := [.int x10]) ⟨hx, hb, hml, hown, hts⟩ (k_X7_circleOf l dC dI h0 h1 r0 v0 v1 g0 f2 x9  H.size) (cwV 1 hts g_X7_quarrels_1 rfl rfl rfl (by decide +kernel) ⟨Nat.le_of_ble_eq_true rfl, Nat.le_of_ble_eq_true rfl⟩) ⟨fun a U g mk q => by obtain ⟨q0, q1, qP, qK, qD⟩ := q; exact ⟨q0, q1, qP, va_K.moved (u := U) (U := U.calling g mk a) (Vm.Alike.refl U.vm) qK, qD⟩, va_recv hKc hPc (ci := 7) (q0 := 0) rfl rfl, fun U hU hW => ⟨rfl, by rw [hU], by rw [hU]; exact hPc, va_K.moved hW.alike hKc, hDc.weaken (fun _ _ _ _ => trivial)⟩⟩ rfl rfl hl.1 rfl (lv_room (Nat.le_of_ble_eq_true rfl)) dX7_quarrels_21 ⟨Nat.le_of_ble_eq_true rfl, Nat.le_of_ble_eq_true rfl⟩) hS (fun q _ h => hFc q h) hFc (fun ra21 u t H1 locs ht hvm hwra21 hB hz1 hk1 hS => ?_)
          obtain ⟨hP1, hK1, hD1⟩ := hB
          rw [ht] at hP1
          obtain ⟨hP, hD⟩ := va_join (wr := []) (w1 := [(h0, .inr (7, [.ref h1, .ref r0, .int v0, .int v1])), (h1, .inl (g0, 58, .inl f2))]) hP hD [0, 1] [] rfl rfl (by decide) (by decide) hk1 hFc hP1 hD1
          generalize H1 = H at hP hS ⊢
          have hP : va_P (dC, dI) vwCl [(h0, .inr (7, [.ref h1, .ref r0, .int v0, .int v1])), (h1, .inl (g0, 58, .inl f2))] H := hP
          have hD : va_D A [(h0, .inr (7, [.ref h1, .ref r0, .int v0, .int v1])), (h1, .inl (g0, 58, .inl f2))] := hD
          have hPc := hP.sub (ws' := []) [] rfl
          have hDc := hD.sub (ws' := []) [] (by decide) rfl
          have hKc := hK.sub (tys' := []) [] rfl
          have hFc := va_free (wc := []) hD hS hA [] rfl
          refine va_calli (va_runS (As := [.int ra21]) (rest := [.int x10]) ⟨hx, hb, hml, hown, hts⟩ (k_J6_bitCount_0f7a4 l dC dI ra21  H.size) (va_cwS 1 hts g_X7_quarrels_2 rfl rfl rfl (by decide +kernel) ⟨Nat.le_of_ble_eq_true rfl, Nat.le_of_ble_eq_true rfl⟩) ⟨fun a U g mk q => by obtain ⟨q0, q1, qP, qK, qD⟩ := q; exact ⟨q0, q1, qP, va_K.moved (u := U) (U := U.calling g mk a) (Vm.Alike.refl U.vm) qK, qD⟩, fun U hU hW => ⟨rfl, by rw [hU], by rw [hU]; exact hPc, va_K.moved hW.alike hKc, hDc.weaken (fun _ _ _ _ => trivial)⟩⟩ rfl rfl hl.1 rfl (lv_room (Nat.le_of_ble_eq_true rfl)) dX7_quarrels_24 ⟨Nat.le_of_ble_eq_true rfl, Nat.le_of_ble_eq_true rfl⟩) hS (fun q _ h => hFc q h) hFc (fun ra22 u t H1 locs ht hvm hwra22 hB hz1 hk1 hS => ?_)
          obtain ⟨hP1, hK1, hD1⟩ := hB
          rw [ht] at hP1
          obtain ⟨hP, hD⟩ := va_join (wr := [(h0, .inr (7, [.ref h1, .ref r0, .int v0, .int v1])), (h1, .inl (g0, 58, .inl f2))]) (w1 := []) hP hD [] [0, 1] rfl rfl (by decide) (by decide) hk1 hFc hP1 hD1
          generalize H1 = H at hP hS ⊢
          have hP : va_P (dC, dI) vwCl [(h0, .inr (7, [.ref h1, .ref r0, .int v0, .int v1])), (h1, .inl (g0, 58, .inl f2))] H := hP
          have hD : va_D A [(h0, .inr (7, [.ref h1, .ref r0, .int v0, .int v1])), (h1, .inl (g0, 58, .inl f2))] := hD
          obtain ⟨wa_ra22, wb_ra22⟩ := hwra22
          have wa_ra22 : 0 ≤ ra22.toInt := wa_ra22
          have wb_ra22 : ra22.toInt ≤ 63 := wb_ra22
          refine lv_iconst (v := 1) hx hb dX7_quarrels_27 (by decide) ?_
          refine lv_isub hx hb dX7_quarrels_28 ?_
          refine lv_topi (fun t23 et23 => ?_)
          have gt23 : t23.toInt = ra22.toInt - 1 := pv_sub (a := ra22.toInt) (b := 1) et23 rfl (by decide) (by omega) (by omega)
          refine lv_iadd hx hb dX7_quarrels_29 ?_
          refine lv_topi (fun t24 et24 => ?_)
          refine lv_istore_n (lv' := [(1, .int t24), (2, .int x9), (0, .ref h0)]) hx hb dX7_quarrels_30 rfl hl (by decide) rfl (fun ls hl => ?_)
          exact hJ18 t24 H locs ls hP hD hS (lv_sub hl [1, 0, 2] rfl)
  exact hL13 _ 0 0 H locs ls (by first | omega | decide) (by first | omega | decide) (Nat.lt_succ_self _) hP hD hS (lv_sub hl [0, 1, 2] rfl)
def q_X7_fill : List Cond := .code yX7_fill cX7_fill 3 none :: (([.code yX7_clear cX7_clear 1 none, .fieldLink RX7 11 "LeftArguments$Room" "cells" "[I", .code yJ7_fill_53178 cJ7_fill_53178 4 none, .initialized RJ7, .static yJ7_fill_53178, .methodLink RX7 46 yJ7_fill_53178, .initialized RX7, .instanceMethod yX7_clear, .selects RX7 yX7_clear yX7_clear, .methodLink RX7 25 yX7_clear, .code yX5_ruleOf cX5_ruleOf 2 (some .int), .fieldLink RX5 11 "LeftArguments$Office" "rules" "[I", .initialized RX5, .instanceMethod yX5_ruleOf, .selects RX5 yX5_ruleOf yX5_ruleOf, .methodLink RX7 30 yX5_ruleOf, .code yX5_toldCount cX5_toldCount 1 (some .int), .fieldLink RX5 20 "LeftArguments$Office" "toldCount" "I", .instanceMethod yX5_toldCount, .selects RX5 yX5_toldCount yX5_toldCount, .methodLink RX7 34 yX5_toldCount, .code yX5_toldOf cX5_toldOf 4 (some .int), .fieldLink RX5 17 "LeftArguments$Office" "bags" "[I", .instanceMethod yX5_toldOf, .selects RX5 yX5_toldOf yX5_toldOf, .methodLink RX7 38 yX5_toldOf, .code yX7_put cX7_put 7 none, .code yX7_set cX7_set 4 none, .instanceMethod yX7_set, .selects RX7 yX7_set yX7_set, .methodLink RX7 58 yX7_set, .instanceMethod yX7_put, .selects RX7 yX7_put yX7_put, .methodLink RX7 42 yX7_put] : List Cond) ++ wsX70 ++ wsX50)
set_option maxRecDepth 20000 in
theorem g_X7_fill_0 : GoodIn q_X7_fill (wsV RX7 25 RX7 yX7_clear q_X7_clear) := goodIn_app (goodIn_r _ [10, 8, 9, 7] (by decide +kernel) (by decide +kernel)) (goodIn_ca (goodIn_r (.code yX7_clear cX7_clear 1 none :: [.fieldLink RX7 11 "LeftArguments$Room" "cells" "[I", .code yJ7_fill_53178 cJ7_fill_53178 4 none, .initialized RJ7, .static yJ7_fill_53178, .methodLink RX7 46 yJ7_fill_53178]) [1, 2, 3, 4, 5, 6] (by decide +kernel) (by decide +kernel)) (goodIn_sub (fun _ h => List.mem_cons_of_mem _ (List.mem_append_left _ (List.mem_append_right _ h))) gwX7))
set_option maxRecDepth 20000 in
theorem g_X7_fill_1 : GoodIn q_X7_fill (wsV RX7 30 RX5 yX5_ruleOf q_X5_ruleOf) := goodIn_app (goodIn_r _ [16, 14, 15, 13] (by decide +kernel) (by decide +kernel)) (goodIn_ca (goodIn_r (.code yX5_ruleOf cX5_ruleOf 2 (some .int) :: [.fieldLink RX5 11 "LeftArguments$Office" "rules" "[I"]) [11, 12] (by decide +kernel) (by decide +kernel)) (goodIn_sub (fun _ h => List.mem_cons_of_mem _ (List.mem_append_right _ h)) gwX5))
set_option maxRecDepth 20000 in
theorem g_X7_fill_2 : GoodIn q_X7_fill (wsV RX7 34 RX5 yX5_toldCount q_X5_toldCount) := goodIn_app (goodIn_r _ [21, 19, 20, 13] (by decide +kernel) (by decide +kernel)) (goodIn_ca (goodIn_r (.code yX5_toldCount cX5_toldCount 1 (some .int) :: [.fieldLink RX5 20 "LeftArguments$Office" "toldCount" "I"]) [17, 18] (by decide +kernel) (by decide +kernel)) (goodIn_sub (fun _ h => List.mem_cons_of_mem _ (List.mem_append_right _ h)) gwX5))
set_option maxRecDepth 20000 in
theorem g_X7_fill_3 : GoodIn q_X7_fill (wsV RX7 38 RX5 yX5_toldOf q_X5_toldOf) := goodIn_app (goodIn_r _ [26, 24, 25, 13] (by decide +kernel) (by decide +kernel)) (goodIn_ca (goodIn_r (.code yX5_toldOf cX5_toldOf 4 (some .int) :: [.fieldLink RX5 17 "LeftArguments$Office" "bags" "[I"]) [22, 23] (by decide +kernel) (by decide +kernel)) (goodIn_sub (fun _ h => List.mem_cons_of_mem _ (List.mem_append_right _ h)) gwX5))
set_option maxRecDepth 20000 in
theorem g_X7_fill_4 : GoodIn q_X7_fill (wsV RX7 38 RX5 yX5_toldOf q_X5_toldOf) := goodIn_app (goodIn_r _ [26, 24, 25, 13] (by decide +kernel) (by decide +kernel)) (goodIn_ca (goodIn_r (.code yX5_toldOf cX5_toldOf 4 (some .int) :: [.fieldLink RX5 17 "LeftArguments$Office" "bags" "[I"]) [22, 23] (by decide +kernel) (by decide +kernel)) (goodIn_sub (fun _ h => List.mem_cons_of_mem _ (List.mem_append_right _ h)) gwX5))
set_option maxRecDepth 20000 in
theorem g_X7_fill_5 : GoodIn q_X7_fill (wsV RX7 38 RX5 yX5_toldOf q_X5_toldOf) := goodIn_app (goodIn_r _ [26, 24, 25, 13] (by decide +kernel) (by decide +kernel)) (goodIn_ca (goodIn_r (.code yX5_toldOf cX5_toldOf 4 (some .int) :: [.fieldLink RX5 17 "LeftArguments$Office" "bags" "[I"]) [22, 23] (by decide +kernel) (by decide +kernel)) (goodIn_sub (fun _ h => List.mem_cons_of_mem _ (List.mem_append_right _ h)) gwX5))
set_option maxRecDepth 20000 in
theorem g_X7_fill_6 : GoodIn q_X7_fill (wsV RX7 38 RX5 yX5_toldOf q_X5_toldOf) := goodIn_app (goodIn_r _ [26, 24, 25, 13] (by decide +kernel) (by decide +kernel)) (goodIn_ca (goodIn_r (.code yX5_toldOf cX5_toldOf 4 (some .int) :: [.fieldLink RX5 17 "LeftArguments$Office" "bags" "[I"]) [22, 23] (by decide +kernel) (by decide +kernel)) (goodIn_sub (fun _ h => List.mem_cons_of_mem _ (List.mem_append_right _ h)) gwX5))
set_option maxRecDepth 20000 in
theorem g_X7_fill_7 : GoodIn q_X7_fill (wsV RX7 38 RX5 yX5_toldOf q_X5_toldOf) := goodIn_app (goodIn_r _ [26, 24, 25, 13] (by decide +kernel) (by decide +kernel)) (goodIn_ca (goodIn_r (.code yX5_toldOf cX5_toldOf 4 (some .int) :: [.fieldLink RX5 17 "LeftArguments$Office" "bags" "[I"]) [22, 23] (by decide +kernel) (by decide +kernel)) (goodIn_sub (fun _ h => List.mem_cons_of_mem _ (List.mem_append_right _ h)) gwX5))
set_option maxRecDepth 20000 in
theorem g_X7_fill_8 : GoodIn q_X7_fill (wsV RX7 42 RX7 yX7_put q_X7_put) := goodIn_app (goodIn_r _ [34, 32, 33, 7] (by decide +kernel) (by decide +kernel)) (goodIn_ca (goodIn_r (.code yX7_put cX7_put 7 none :: [.code yX7_set cX7_set 4 none, .fieldLink RX7 11 "LeftArguments$Room" "cells" "[I", .initialized RX7, .instanceMethod yX7_set, .selects RX7 yX7_set yX7_set, .methodLink RX7 58 yX7_set]) [27, 28, 2, 7, 29, 30, 31] (by decide +kernel) (by decide +kernel)) (goodIn_sub (fun _ h => List.mem_cons_of_mem _ (List.mem_append_left _ (List.mem_append_right _ h))) gwX7))
set_option maxHeartbeats 4000000 in
set_option maxRecDepth 100000 in
theorem k_X7_fill (l : Launch) (dC : Nat → ClassId) (dI : Nat → Nat → Nat) (h0 : Nat) (h1 : Nat) (h2 : Nat) (h3 : Nat) (h4 : Nat) (r0 : Nat) (v0 : Int32) (v1 : Int32) (v2 : Int32) (v3 : Int32) (g0 : ClassId) (f4 : Nat → Int32) (g1 : ClassId) (f5 : Nat → Int32) (g2 : ClassId) (f6 : Nat → Int32) (i_v3 : 0 ≤ v3.toInt ∧ v3.toInt ≤ 1) (sz : Nat) : Met l yX7_fill q_X7_fill ({ frames := 2, cells := 0, slots := 0, locals := 49 }) (va_Pc [.ref h0, .ref h1] (fun U => U.heap.size = sz ∧ va_P (dC, dI) vwCl [(h0, .inr (7, [.ref h4, .ref r0, .int v0, .int v1])), (h1, .inr (5, [.ref h2, .ref h3, .int v2, .int v3])), (h2, .inl (g0, 4, .inl f4)), (h3, .inl (g1, 40, .inl f5)), (h4, .inl (g2, 58, .inl f6))] U.heap ∧ va_K (dC, dI) vwCl [(g0, .int), (g1, .int), (g2, .int)] U ∧ va_D (fun _ => True) [(h0, .inr (7, [.ref h4, .ref r0, .int v0, .int v1])), (h1, .inr (5, [.ref h2, .ref h3, .int v2, .int v3])), (h2, .inl (g0, 4, .inl f4)), (h3, .inl (g1, 40, .inl f5)), (h4, .inl (g2, 58, .inl f6))])) (va_Qv (fun (_ : Unit) => True) (fun (_ : Unit) (t : State) => ∃ (o_h4 : Nat → Int32), va_P (dC, dI) vwCl [(h0, .inr (7, [.ref h4, .ref r0, .int v0, .int v1])), (h1, .inr (5, [.ref h2, .ref h3, .int v2, .int v3])), (h2, .inl (g0, 4, .inl f4)), (h3, .inl (g1, 40, .inl f5)), (h4, .inl (g2, 58, .inl o_h4))] t.heap ∧ va_K (dC, dI) vwCl [] t ∧ va_D (va_A [(h0, .inr (7, [.ref h4, .ref r0, .int v0, .int v1])), (h1, .inr (5, [.ref h2, .ref h3, .int v2, .int v3])), (h2, .inl (g0, 4, .inl f4)), (h3, .inl (g1, 40, .inl f5)), (h4, .inl (g2, 58, .inl f6))] sz) [(h0, .inr (7, [.ref h4, .ref r0, .int v0, .int v1])), (h1, .inr (5, [.ref h2, .ref h3, .int v2, .int v3])), (h2, .inl (g0, 4, .inl f4)), (h3, .inl (g1, 40, .inl f5)), (h4, .inl (g2, 58, .inl o_h4))]) (va_A [(h0, .inr (7, [.ref h4, .ref r0, .int v0, .int v1])), (h1, .inr (5, [.ref h2, .ref h3, .int v2, .int v3])), (h2, .inl (g0, 4, .inl f4)), (h3, .inl (g1, 40, .inl f5)), (h4, .inl (g2, 58, .inl f6))] sz)) 0 0 (va_A [(h0, .inr (7, [.ref h4, .ref r0, .int v0, .int v1])), (h1, .inr (5, [.ref h2, .ref h3, .int v2, .int v3])), (h2, .inl (g0, 4, .inl f4)), (h3, .inl (g1, 40, .inl f5)), (h4, .inl (g2, 58, .inl f6))] sz) := by
  refine Met.ofW (cc := cX7_fill) (maxL := 3) (ret := none) (by decide) rfl ?_
  intro p e s m args below meth c s₁ B hml hv
  obtain ⟨i_v3a, i_v3b⟩ := i_v3
  obtain ⟨rfl, hsz, hP, hK, hD0⟩ := hv
  have hx := B.exec
  have hb := B.bytes
  have hr := B.returns
  have hts := atoms_spec (ws := q_X7_fill) B.pre
  have hown : s.vm.findClass RX7 = some m.cls := findClass_of_methodNamed B.named
  have hlocks := B.notSynchronized
  subst hsz
  have hD := hD0.self (sz := s.heap.size)
  generalize hAe : va_A [(h0, .inr (7, [.ref h4, .ref r0, .int v0, .int v1])), (h1, .inr (5, [.ref h2, .ref h3, .int v2, .int v3])), (h2, .inl (g0, 4, .inl f4)), (h3, .inl (g1, 40, .inl f5)), (h4, .inl (g2, 58, .inl f6))] s.heap.size = A at hD ⊢
  have hA : ∀ q : Nat, s.heap.size ≤ q → A q := fun q h => by rw [← hAe]; exact Or.inr h
  have hS : va_S A s.heap s.heap [] := va_S.rf
  generalize hQ : (MQ below _ _ s 0 0 A) = Q
  have hl := lv_entry ([.ref h0, .ref h1]) (n := 3) (Nat.le_of_ble_eq_true rfl)
  rw [lg_entry_eq]
  generalize (lg_sl ([.ref h0, .ref h1]) ++ List.replicate (3 - (lg_sl ([.ref h0, .ref h1])).length) Slot.unset).toArray = ls at hl ⊢
  have hl : lv_has ls 3 [(0, .ref h0), (1, .ref h1)] := hl
  obtain ⟨H, hH⟩ : ∃ H : Heap, H = s.heap := ⟨_, rfl⟩
  obtain ⟨locs, hlocs⟩ : ∃ y : List Loc, y = [] := ⟨_, rfl⟩
  have hS : va_S A s.heap H locs := by rw [hH, hlocs]; exact va_S.rf
  have hP : va_P (dC, dI) vwCl [(h0, .inr (7, [.ref h4, .ref r0, .int v0, .int v1])), (h1, .inr (5, [.ref h2, .ref h3, .int v2, .int v3])), (h2, .inl (g0, 4, .inl f4)), (h3, .inl (g1, 40, .inl f5)), (h4, .inl (g2, 58, .inl f6))] H := by rw [hH]; exact hP
  rw [← hH, ← hlocs]
  refine lv_aload_n hx hb dX7_fill_0 rfl (lv_at hl 0 rfl) ?_
  have hPc := hP.sub (ws' := [(h0, .inr (7, [.ref h4, .ref r0, .int v0, .int v1])), (h4, .inl (g2, 58, .inl f6))]) [0, 4] rfl
  have hDc := hD.sub (ws' := [(h0, .inr (7, [.ref h4, .ref r0, .int v0, .int v1])), (h4, .inl (g2, 58, .inl f6))]) [0, 4] (by decide) rfl
  have hKc := hK.sub (tys' := [(g2, .int)]) [2] rfl
  have hFc := va_free (wc := [(h0, .inr (7, [.ref h4, .ref r0, .int v0, .int v1])), (h4, .inl (g2, 58, .inl f6))]) hD hS hA [0, 4] rfl
  refine va_callv (va_runV (As := []) (rest := []) ⟨hx, hb, hml, hown, hts⟩ (k_X7_clear l dC dI h0 h4 r0 v0 v1 g2 f6  H.size) (cwV 0 hts g_X7_fill_0 rfl rfl rfl (by decide +kernel) ⟨Nat.le_of_ble_eq_true rfl, Nat.le_of_ble_eq_true rfl⟩) ⟨fun a U g mk q => by obtain ⟨q0, q1, qP, qK, qD⟩ := q; exact ⟨q0, q1, qP, va_K.moved (u := U) (U := U.calling g mk a) (Vm.Alike.refl U.vm) qK, qD⟩, va_recv hKc hPc (ci := 7) (q0 := 0) rfl rfl, fun U hU hW => ⟨rfl, by rw [hU], by rw [hU]; exact hPc, va_K.moved hW.alike hKc, hDc.weaken (fun _ _ _ _ => trivial)⟩⟩ rfl rfl hl.1 rfl (lv_room (Nat.le_of_ble_eq_true rfl)) dX7_fill_1 ⟨Nat.le_of_ble_eq_true rfl, Nat.le_of_ble_eq_true rfl⟩) hS (fun q _ h => hFc q h) hFc (fun u t H1 locs ht hvm hwra1 hB hz1 hk1 hS => ?_)
  obtain ⟨fn2, hP1, hK1, hD1⟩ := hB
  rw [ht] at hP1
  obtain ⟨hP, hD⟩ := va_join (wr := [(h1, .inr (5, [.ref h2, .ref h3, .int v2, .int v3])), (h2, .inl (g0, 4, .inl f4)), (h3, .inl (g1, 40, .inl f5))]) (w1 := [(h0, .inr (7, [.ref h4, .ref r0, .int v0, .int v1])), (h4, .inl (g2, 58, .inl fn2))]) hP hD [0, 4] [1, 2, 3] rfl rfl (by decide) (by decide) hk1 hFc hP1 hD1
  generalize H1 = H at hP hS ⊢
  have hP := hP.sub (ws' := [(h0, .inr (7, [.ref h4, .ref r0, .int v0, .int v1])), (h1, .inr (5, [.ref h2, .ref h3, .int v2, .int v3])), (h2, .inl (g0, 4, .inl f4)), (h3, .inl (g1, 40, .inl f5)), (h4, .inl (g2, 58, .inl fn2))]) [3, 0, 1, 2, 4] rfl
  have hD := hD.sub (ws' := [(h0, .inr (7, [.ref h4, .ref r0, .int v0, .int v1])), (h1, .inr (5, [.ref h2, .ref h3, .int v2, .int v3])), (h2, .inl (g0, 4, .inl f4)), (h3, .inl (g1, 40, .inl f5)), (h4, .inl (g2, 58, .inl fn2))]) [3, 0, 1, 2, 4] (by decide) rfl
  have hP : va_P (dC, dI) vwCl [(h0, .inr (7, [.ref h4, .ref r0, .int v0, .int v1])), (h1, .inr (5, [.ref h2, .ref h3, .int v2, .int v3])), (h2, .inl (g0, 4, .inl f4)), (h3, .inl (g1, 40, .inl f5)), (h4, .inl (g2, 58, .inl fn2))] H := hP
  have hD : va_D A [(h0, .inr (7, [.ref h4, .ref r0, .int v0, .int v1])), (h1, .inr (5, [.ref h2, .ref h3, .int v2, .int v3])), (h2, .inl (g0, 4, .inl f4)), (h3, .inl (g1, 40, .inl f5)), (h4, .inl (g2, 58, .inl fn2))] := hD
  refine lv_aload_n hx hb dX7_fill_4 rfl (lv_at hl 0 rfl) ?_
  refine va_get (D := (dC, dI)) (ci := 7) (v := .ref h4) (C := RX7) (T := TX7) (N := 4) hx hb hts (fun _ h => List.mem_cons_of_mem _ (List.mem_append_left _ (List.mem_append_right _ h))) hown hK hP 0 rfl rfl 0 (by decide) (hts (.fieldLink RX7 11 "LeftArguments$Room" "cells" "[I") (List.mem_cons_of_mem _ (List.mem_append_left _ (List.mem_append_left _ (List.mem_of_getElem? (i := 1) rfl))))) (fun _ h9 => h9) rfl dX7_fill_5 ?_
  refine lv_bipush (v := 56) hx hb dX7_fill_8 (by decide) ?_
  refine lv_aload_n hx hb dX7_fill_10 rfl (lv_at hl 1 rfl) ?_
  refine lv_iconst (v := 3) hx hb dX7_fill_11 (by decide) ?_
  have hPc := hP.sub (ws' := [(h1, .inr (5, [.ref h2, .ref h3, .int v2, .int v3])), (h2, .inl (g0, 4, .inl f4))]) [1, 2] rfl
  have hDc := hD.sub (ws' := [(h1, .inr (5, [.ref h2, .ref h3, .int v2, .int v3])), (h2, .inl (g0, 4, .inl f4))]) [1, 2] (by decide) rfl
  have hKc := hK.sub (tys' := [(g0, .int)]) [0] rfl
  have hFc := va_free (wc := [(h1, .inr (5, [.ref h2, .ref h3, .int v2, .int v3])), (h2, .inl (g0, 4, .inl f4))]) hD hS hA [1, 2] rfl
  refine va_calli (va_runV (As := [.int 3]) (rest := [.int 56, .ref h4]) ⟨hx, hb, hml, hown, hts⟩ (k_X5_ruleOf l dC dI h1 h2 h3 v2 v3 g0 f4 3 ⟨by first | omega | decide, by first | omega | decide⟩ H.size) (cwV 1 hts g_X7_fill_1 rfl rfl rfl (by decide +kernel) ⟨Nat.le_of_ble_eq_true rfl, Nat.le_of_ble_eq_true rfl⟩) ⟨fun a U g mk q => by obtain ⟨q0, q1, qP, qK, qD⟩ := q; exact ⟨q0, q1, qP, va_K.moved (u := U) (U := U.calling g mk a) (Vm.Alike.refl U.vm) qK, qD⟩, va_recv hKc hPc (ci := 5) (q0 := 0) rfl rfl, fun U hU hW => ⟨rfl, by rw [hU], by rw [hU]; exact hPc, va_K.moved hW.alike hKc, hDc.weaken (fun _ _ _ _ => trivial)⟩⟩ rfl rfl hl.1 rfl (lv_room (Nat.le_of_ble_eq_true rfl)) dX7_fill_12 ⟨Nat.le_of_ble_eq_true rfl, Nat.le_of_ble_eq_true rfl⟩) hS (fun q _ h => hFc q h) hFc (fun ra3 u t H1 locs ht hvm hwra3 hB hz1 hk1 hS => ?_)
  obtain ⟨hP1, hK1, hD1⟩ := hB
  rw [ht] at hP1
  obtain ⟨hP, hD⟩ := va_join (wr := [(h0, .inr (7, [.ref h4, .ref r0, .int v0, .int v1])), (h3, .inl (g1, 40, .inl f5)), (h4, .inl (g2, 58, .inl fn2))]) (w1 := [(h1, .inr (5, [.ref h2, .ref h3, .int v2, .int v3])), (h2, .inl (g0, 4, .inl f4))]) hP hD [1, 2] [0, 3, 4] rfl rfl (by decide) (by decide) hk1 hFc hP1 hD1
  generalize H1 = H at hP hS ⊢
  have hP := hP.sub (ws' := [(h0, .inr (7, [.ref h4, .ref r0, .int v0, .int v1])), (h1, .inr (5, [.ref h2, .ref h3, .int v2, .int v3])), (h2, .inl (g0, 4, .inl f4)), (h3, .inl (g1, 40, .inl f5)), (h4, .inl (g2, 58, .inl fn2))]) [0, 3, 4, 1, 2] rfl
  have hD := hD.sub (ws' := [(h0, .inr (7, [.ref h4, .ref r0, .int v0, .int v1])), (h1, .inr (5, [.ref h2, .ref h3, .int v2, .int v3])), (h2, .inl (g0, 4, .inl f4)), (h3, .inl (g1, 40, .inl f5)), (h4, .inl (g2, 58, .inl fn2))]) [0, 3, 4, 1, 2] (by decide) rfl
  have hP : va_P (dC, dI) vwCl [(h0, .inr (7, [.ref h4, .ref r0, .int v0, .int v1])), (h1, .inr (5, [.ref h2, .ref h3, .int v2, .int v3])), (h2, .inl (g0, 4, .inl f4)), (h3, .inl (g1, 40, .inl f5)), (h4, .inl (g2, 58, .inl fn2))] H := hP
  have hD : va_D A [(h0, .inr (7, [.ref h4, .ref r0, .int v0, .int v1])), (h1, .inr (5, [.ref h2, .ref h3, .int v2, .int v3])), (h2, .inl (g0, 4, .inl f4)), (h3, .inl (g1, 40, .inl f5)), (h4, .inl (g2, 58, .inl fn2))] := hD
  refine va_iast hx hb hK hP hD hS 4 2 rfl rfl (pv_c (x := 56) (n := 58) (by decide)) dX7_fill_15 (fun H locs hP hD hS => ?_)
  obtain ⟨fn4, efn4⟩ : ∃ g : Nat → Int32, g = upd fn2 (Int32.toNatClampNeg 56) ra3 := ⟨_, rfl⟩
  rw [← efn4] at hP hD
  have hP : va_P (dC, dI) vwCl [(h0, .inr (7, [.ref h4, .ref r0, .int v0, .int v1])), (h1, .inr (5, [.ref h2, .ref h3, .int v2, .int v3])), (h2, .inl (g0, 4, .inl f4)), (h3, .inl (g1, 40, .inl f5)), (h4, .inl (g2, 58, .inl fn4))] H := hP
  have hD : va_D A [(h0, .inr (7, [.ref h4, .ref r0, .int v0, .int v1])), (h1, .inr (5, [.ref h2, .ref h3, .int v2, .int v3])), (h2, .inl (g0, 4, .inl f4)), (h3, .inl (g1, 40, .inl f5)), (h4, .inl (g2, 58, .inl fn4))] := hD
  refine lv_iconst (v := 0) hx hb dX7_fill_16 (by decide) ?_
  refine lv_istore_n (lv' := [(2, .int 0), (0, .ref h0), (1, .ref h1)]) hx hb dX7_fill_17 rfl hl (by decide) rfl (fun ls hl => ?_)
  have hL37 : ∀ (n9 : Nat), ∀ (x33 : Int32) (fn34 : Nat → Int32) (H : Heap) (locs : List Loc) (ls : Array Slot), 0 ≤ x33.toInt → (2147483647 - x33.toInt).toNat < n9 → va_P (dC, dI) vwCl [(h0, .inr (7, [.ref h4, .ref r0, .int v0, .int v1])), (h1, .inr (5, [.ref h2, .ref h3, .int v2, .int v3])), (h2, .inl (g0, 4, .inl f4)), (h3, .inl (g1, 40, .inl f5)), (h4, .inl (g2, 58, .inl fn34))] H → va_D A [(h0, .inr (7, [.ref h4, .ref r0, .int v0, .int v1])), (h1, .inr (5, [.ref h2, .ref h3, .int v2, .int v3])), (h2, .inl (g0, 4, .inl f4)), (h3, .inl (g1, 40, .inl f5)), (h4, .inl (g2, 58, .inl fn34))] → va_S A s.heap H locs → lv_has ls 3 [(2, .int x33), (0, .ref h0), (1, .ref h1)] → W p l e ({ frames := 2, cells := 0, slots := 0, locals := 49 }) s m ([.ref h0, .ref h1] : List Value).toArray below meth c H locs 0 0 Q (F0 m 18 ls []) := by
    intro n9
    induction n9 with
    | zero => intro x33 fn34 H locs ls qa_x33 hm9 hP hD hS hl; exact absurd hm9 (Nat.not_lt_zero _)
    | succ n9 ih =>
      intro x33 fn34 H locs ls qa_x33 hm9 hP hD hS hl
      refine lv_iload_n hx hb dX7_fill_18 rfl (lv_at hl 0 rfl) ?_
      refine lv_aload_n hx hb dX7_fill_19 rfl (lv_at hl 2 rfl) ?_
      have hPc := hP.sub (ws' := [(h1, .inr (5, [.ref h2, .ref h3, .int v2, .int v3]))]) [1] rfl
      have hDc := hD.sub (ws' := [(h1, .inr (5, [.ref h2, .ref h3, .int v2, .int v3]))]) [1] (by decide) rfl
      have hKc := hK.sub (tys' := []) [] rfl
      have hFc := va_free (wc := [(h1, .inr (5, [.ref h2, .ref h3, .int v2, .int v3]))]) hD hS hA [1] rfl
      refine va_calli (va_runV (As := []) (rest := [.int x33]) ⟨hx, hb, hml, hown, hts⟩ (k_X5_toldCount l dC dI h1 h2 h3 v2 v3 ⟨by first | omega | decide, by first | omega | decide⟩ H.size) (cwV 0 hts g_X7_fill_2 rfl rfl rfl (by decide +kernel) ⟨Nat.le_of_ble_eq_true rfl, Nat.le_of_ble_eq_true rfl⟩) ⟨fun a U g mk q => by obtain ⟨q0, q1, qP, qK, qD⟩ := q; exact ⟨q0, q1, qP, va_K.moved (u := U) (U := U.calling g mk a) (Vm.Alike.refl U.vm) qK, qD⟩, va_recv hKc hPc (ci := 5) (q0 := 0) rfl rfl, fun U hU hW => ⟨rfl, by rw [hU], by rw [hU]; exact hPc, va_K.moved hW.alike hKc, hDc.weaken (fun _ _ _ _ => trivial)⟩⟩ rfl rfl hl.1 rfl (lv_room (Nat.le_of_ble_eq_true rfl)) dX7_fill_20 ⟨Nat.le_of_ble_eq_true rfl, Nat.le_of_ble_eq_true rfl⟩) hS (fun q _ h => hFc q h) hFc (fun ra38 u t H1 locs ht hvm hwra38 hB hz1 hk1 hS => ?_)
      obtain ⟨hP1, hK1, hD1⟩ := hB
      rw [ht] at hP1
      obtain ⟨hP, hD⟩ := va_join (wr := [(h0, .inr (7, [.ref h4, .ref r0, .int v0, .int v1])), (h2, .inl (g0, 4, .inl f4)), (h3, .inl (g1, 40, .inl f5)), (h4, .inl (g2, 58, .inl fn34))]) (w1 := [(h1, .inr (5, [.ref h2, .ref h3, .int v2, .int v3]))]) hP hD [1] [0, 2, 3, 4] rfl rfl (by decide) (by decide) hk1 hFc hP1 hD1
      generalize H1 = H at hP hS ⊢
      have hP := hP.sub (ws' := [(h0, .inr (7, [.ref h4, .ref r0, .int v0, .int v1])), (h1, .inr (5, [.ref h2, .ref h3, .int v2, .int v3])), (h2, .inl (g0, 4, .inl f4)), (h3, .inl (g1, 40, .inl f5)), (h4, .inl (g2, 58, .inl fn34))]) [0, 4, 1, 2, 3] rfl
      have hD := hD.sub (ws' := [(h0, .inr (7, [.ref h4, .ref r0, .int v0, .int v1])), (h1, .inr (5, [.ref h2, .ref h3, .int v2, .int v3])), (h2, .inl (g0, 4, .inl f4)), (h3, .inl (g1, 40, .inl f5)), (h4, .inl (g2, 58, .inl fn34))]) [0, 4, 1, 2, 3] (by decide) rfl
      have hP : va_P (dC, dI) vwCl [(h0, .inr (7, [.ref h4, .ref r0, .int v0, .int v1])), (h1, .inr (5, [.ref h2, .ref h3, .int v2, .int v3])), (h2, .inl (g0, 4, .inl f4)), (h3, .inl (g1, 40, .inl f5)), (h4, .inl (g2, 58, .inl fn34))] H := hP
      have hD : va_D A [(h0, .inr (7, [.ref h4, .ref r0, .int v0, .int v1])), (h1, .inr (5, [.ref h2, .ref h3, .int v2, .int v3])), (h2, .inl (g0, 4, .inl f4)), (h3, .inl (g1, 40, .inl f5)), (h4, .inl (g2, 58, .inl fn34))] := hD
      refine lv_icmp_ge (tgt := 67) hx hb dX7_fill_23 (by decide) (fun c39 => ?_) (fun c39 => ?_)
      · skip
        have fc39 : ra38.toInt ≤ x33.toInt := Int32.le_iff_toInt_le.mp c39
        have r1c39 := Int32.toInt_lt x33
        have r2c39 := Int32.toInt_lt ra38
        have r3c39 := Int32.le_toInt x33
        have r4c39 := Int32.le_toInt ra38
        subst hQ
        have hP9 := hP.sub (ws' := [(h0, .inr (7, [.ref h4, .ref r0, .int v0, .int v1])), (h1, .inr (5, [.ref h2, .ref h3, .int v2, .int v3])), (h2, .inl (g0, 4, .inl f4)), (h3, .inl (g1, 40, .inl f5)), (h4, .inl (g2, 58, .inl fn34))]) [0, 1, 2, 3, 4] rfl
        have hD9 := hD.sub (ws' := [(h0, .inr (7, [.ref h4, .ref r0, .int v0, .int v1])), (h1, .inr (5, [.ref h2, .ref h3, .int v2, .int v3])), (h2, .inl (g0, 4, .inl f4)), (h3, .inl (g1, 40, .inl f5)), (h4, .inl (g2, 58, .inl fn34))]) [0, 1, 2, 3, 4] (by decide) rfl
        have hK9 := hK.sub (tys' := []) [] rfl
        exact W.vret hx hb hr (fun t ht hW => ⟨⟨(), rfl, trivial, fn34, by rw [ht]; exact hP9, va_K.moved hW.alike hK9, hD9⟩, hS.F ht⟩) hS.2.2 dX7_fill_67
      · skip
        have fc39 : ¬ (ra38.toInt ≤ x33.toInt) := fun h9 => c39 (Int32.le_iff_toInt_le.mpr h9)
        have r1c39 := Int32.toInt_lt x33
        have r2c39 := Int32.toInt_lt ra38
        have r3c39 := Int32.le_toInt x33
        have r4c39 := Int32.le_toInt ra38
        refine lv_aload_n hx hb dX7_fill_26 rfl (lv_at hl 1 rfl) ?_
        refine lv_iload_n hx hb dX7_fill_27 rfl (lv_at hl 0 rfl) ?_
        refine lv_aload_n hx hb dX7_fill_28 rfl (lv_at hl 2 rfl) ?_
        refine lv_iload_n hx hb dX7_fill_29 rfl (lv_at hl 0 rfl) ?_
        refine lv_iconst (v := 0) hx hb dX7_fill_30 (by decide) ?_
        have hPc := hP.sub (ws' := [(h1, .inr (5, [.ref h2, .ref h3, .int v2, .int v3])), (h3, .inl (g1, 40, .inl f5))]) [1, 3] rfl
        have hDc := hD.sub (ws' := [(h1, .inr (5, [.ref h2, .ref h3, .int v2, .int v3])), (h3, .inl (g1, 40, .inl f5))]) [1, 3] (by decide) rfl
        have hKc := hK.sub (tys' := [(g1, .int)]) [1] rfl
        have hFc := va_free (wc := [(h1, .inr (5, [.ref h2, .ref h3, .int v2, .int v3])), (h3, .inl (g1, 40, .inl f5))]) hD hS hA [1, 3] rfl
        refine va_calli (va_runV (As := [.int x33, .int 0]) (rest := [.int x33, .ref h0]) ⟨hx, hb, hml, hown, hts⟩ (k_X5_toldOf l dC dI h1 h3 h2 v2 v3 g1 f5 x33 0 ⟨by first | omega | decide, by first | omega | decide⟩ H.size) (cwV 2 hts g_X7_fill_3 rfl rfl rfl (by decide +kernel) ⟨Nat.le_of_ble_eq_true rfl, Nat.le_of_ble_eq_true rfl⟩) ⟨fun a U g mk q => by obtain ⟨q0, q1, qP, qK, qD⟩ := q; exact ⟨q0, q1, qP, va_K.moved (u := U) (U := U.calling g mk a) (Vm.Alike.refl U.vm) qK, qD⟩, va_recv hKc hPc (ci := 5) (q0 := 0) rfl rfl, fun U hU hW => ⟨rfl, by rw [hU], by rw [hU]; exact hPc, va_K.moved hW.alike hKc, hDc.weaken (fun _ _ _ _ => trivial)⟩⟩ rfl rfl hl.1 rfl (lv_room (Nat.le_of_ble_eq_true rfl)) dX7_fill_31 ⟨Nat.le_of_ble_eq_true rfl, Nat.le_of_ble_eq_true rfl⟩) hS (fun q _ h => hFc q h) hFc (fun ra40 u t H1 locs ht hvm hwra40 hB hz1 hk1 hS => ?_)
        obtain ⟨hP1, hK1, hD1⟩ := hB
        rw [ht] at hP1
        obtain ⟨hP, hD⟩ := va_join (wr := [(h0, .inr (7, [.ref h4, .ref r0, .int v0, .int v1])), (h2, .inl (g0, 4, .inl f4)), (h4, .inl (g2, 58, .inl fn34))]) (w1 := [(h1, .inr (5, [.ref h2, .ref h3, .int v2, .int v3])), (h3, .inl (g1, 40, .inl f5))]) hP hD [1, 3] [0, 2, 4] rfl rfl (by decide) (by decide) hk1 hFc hP1 hD1
        generalize H1 = H at hP hS ⊢
        have hP := hP.sub (ws' := [(h0, .inr (7, [.ref h4, .ref r0, .int v0, .int v1])), (h1, .inr (5, [.ref h2, .ref h3, .int v2, .int v3])), (h2, .inl (g0, 4, .inl f4)), (h3, .inl (g1, 40, .inl f5)), (h4, .inl (g2, 58, .inl fn34))]) [0, 3, 1, 4, 2] rfl
        have hD := hD.sub (ws' := [(h0, .inr (7, [.ref h4, .ref r0, .int v0, .int v1])), (h1, .inr (5, [.ref h2, .ref h3, .int v2, .int v3])), (h2, .inl (g0, 4, .inl f4)), (h3, .inl (g1, 40, .inl f5)), (h4, .inl (g2, 58, .inl fn34))]) [0, 3, 1, 4, 2] (by decide) rfl
        have hP : va_P (dC, dI) vwCl [(h0, .inr (7, [.ref h4, .ref r0, .int v0, .int v1])), (h1, .inr (5, [.ref h2, .ref h3, .int v2, .int v3])), (h2, .inl (g0, 4, .inl f4)), (h3, .inl (g1, 40, .inl f5)), (h4, .inl (g2, 58, .inl fn34))] H := hP
        have hD : va_D A [(h0, .inr (7, [.ref h4, .ref r0, .int v0, .int v1])), (h1, .inr (5, [.ref h2, .ref h3, .int v2, .int v3])), (h2, .inl (g0, 4, .inl f4)), (h3, .inl (g1, 40, .inl f5)), (h4, .inl (g2, 58, .inl fn34))] := hD
        refine lv_aload_n hx hb dX7_fill_34 rfl (lv_at hl 2 rfl) ?_
        refine lv_iload_n hx hb dX7_fill_35 rfl (lv_at hl 0 rfl) ?_
        refine lv_iconst (v := 1) hx hb dX7_fill_36 (by decide) ?_
        have hPc := hP.sub (ws' := [(h1, .inr (5, [.ref h2, .ref h3, .int v2, .int v3])), (h3, .inl (g1, 40, .inl f5))]) [1, 3] rfl
        have hDc := hD.sub (ws' := [(h1, .inr (5, [.ref h2, .ref h3, .int v2, .int v3])), (h3, .inl (g1, 40, .inl f5))]) [1, 3] (by decide) rfl
        have hKc := hK.sub (tys' := [(g1, .int)]) [1] rfl
        have hFc := va_free (wc := [(h1, .inr (5, [.ref h2, .ref h3, .int v2, .int v3])), (h3, .inl (g1, 40, .inl f5))]) hD hS hA [1, 3] rfl
        refine va_calli (va_runV (As := [.int x33, .int 1]) (rest := [.int ra40, .int x33, .ref h0]) ⟨hx, hb, hml, hown, hts⟩ (k_X5_toldOf l dC dI h1 h3 h2 v2 v3 g1 f5 x33 1 ⟨by first | omega | decide, by first | omega | decide⟩ H.size) (cwV 2 hts g_X7_fill_4 rfl rfl rfl (by decide +kernel) ⟨Nat.le_of_ble_eq_true rfl, Nat.le_of_ble_eq_true rfl⟩) ⟨fun a U g mk q => by obtain ⟨q0, q1, qP, qK, qD⟩ := q; exact ⟨q0, q1, qP, va_K.moved (u := U) (U := U.calling g mk a) (Vm.Alike.refl U.vm) qK, qD⟩, va_recv hKc hPc (ci := 5) (q0 := 0) rfl rfl, fun U hU hW => ⟨rfl, by rw [hU], by rw [hU]; exact hPc, va_K.moved hW.alike hKc, hDc.weaken (fun _ _ _ _ => trivial)⟩⟩ rfl rfl hl.1 rfl (lv_room (Nat.le_of_ble_eq_true rfl)) dX7_fill_37 ⟨Nat.le_of_ble_eq_true rfl, Nat.le_of_ble_eq_true rfl⟩) hS (fun q _ h => hFc q h) hFc (fun ra41 u t H1 locs ht hvm hwra41 hB hz1 hk1 hS => ?_)
        obtain ⟨hP1, hK1, hD1⟩ := hB
        rw [ht] at hP1
        obtain ⟨hP, hD⟩ := va_join (wr := [(h0, .inr (7, [.ref h4, .ref r0, .int v0, .int v1])), (h2, .inl (g0, 4, .inl f4)), (h4, .inl (g2, 58, .inl fn34))]) (w1 := [(h1, .inr (5, [.ref h2, .ref h3, .int v2, .int v3])), (h3, .inl (g1, 40, .inl f5))]) hP hD [1, 3] [0, 2, 4] rfl rfl (by decide) (by decide) hk1 hFc hP1 hD1
        generalize H1 = H at hP hS ⊢
        have hP := hP.sub (ws' := [(h0, .inr (7, [.ref h4, .ref r0, .int v0, .int v1])), (h1, .inr (5, [.ref h2, .ref h3, .int v2, .int v3])), (h2, .inl (g0, 4, .inl f4)), (h3, .inl (g1, 40, .inl f5)), (h4, .inl (g2, 58, .inl fn34))]) [0, 3, 1, 4, 2] rfl
        have hD := hD.sub (ws' := [(h0, .inr (7, [.ref h4, .ref r0, .int v0, .int v1])), (h1, .inr (5, [.ref h2, .ref h3, .int v2, .int v3])), (h2, .inl (g0, 4, .inl f4)), (h3, .inl (g1, 40, .inl f5)), (h4, .inl (g2, 58, .inl fn34))]) [0, 3, 1, 4, 2] (by decide) rfl
        have hP : va_P (dC, dI) vwCl [(h0, .inr (7, [.ref h4, .ref r0, .int v0, .int v1])), (h1, .inr (5, [.ref h2, .ref h3, .int v2, .int v3])), (h2, .inl (g0, 4, .inl f4)), (h3, .inl (g1, 40, .inl f5)), (h4, .inl (g2, 58, .inl fn34))] H := hP
        have hD : va_D A [(h0, .inr (7, [.ref h4, .ref r0, .int v0, .int v1])), (h1, .inr (5, [.ref h2, .ref h3, .int v2, .int v3])), (h2, .inl (g0, 4, .inl f4)), (h3, .inl (g1, 40, .inl f5)), (h4, .inl (g2, 58, .inl fn34))] := hD
        refine lv_aload_n hx hb dX7_fill_40 rfl (lv_at hl 2 rfl) ?_
        refine lv_iload_n hx hb dX7_fill_41 rfl (lv_at hl 0 rfl) ?_
        refine lv_iconst (v := 2) hx hb dX7_fill_42 (by decide) ?_
        have hPc := hP.sub (ws' := [(h1, .inr (5, [.ref h2, .ref h3, .int v2, .int v3])), (h3, .inl (g1, 40, .inl f5))]) [1, 3] rfl
        have hDc := hD.sub (ws' := [(h1, .inr (5, [.ref h2, .ref h3, .int v2, .int v3])), (h3, .inl (g1, 40, .inl f5))]) [1, 3] (by decide) rfl
        have hKc := hK.sub (tys' := [(g1, .int)]) [1] rfl
        have hFc := va_free (wc := [(h1, .inr (5, [.ref h2, .ref h3, .int v2, .int v3])), (h3, .inl (g1, 40, .inl f5))]) hD hS hA [1, 3] rfl
        refine va_calli (va_runV (As := [.int x33, .int 2]) (rest := [.int ra41, .int ra40, .int x33, .ref h0]) ⟨hx, hb, hml, hown, hts⟩ (k_X5_toldOf l dC dI h1 h3 h2 v2 v3 g1 f5 x33 2 ⟨by first | omega | decide, by first | omega | decide⟩ H.size) (cwV 2 hts g_X7_fill_5 rfl rfl rfl (by decide +kernel) ⟨Nat.le_of_ble_eq_true rfl, Nat.le_of_ble_eq_true rfl⟩) ⟨fun a U g mk q => by obtain ⟨q0, q1, qP, qK, qD⟩ := q; exact ⟨q0, q1, qP, va_K.moved (u := U) (U := U.calling g mk a) (Vm.Alike.refl U.vm) qK, qD⟩, va_recv hKc hPc (ci := 5) (q0 := 0) rfl rfl, fun U hU hW => ⟨rfl, by rw [hU], by rw [hU]; exact hPc, va_K.moved hW.alike hKc, hDc.weaken (fun _ _ _ _ => trivial)⟩⟩ rfl rfl hl.1 rfl (lv_room (Nat.le_of_ble_eq_true rfl)) dX7_fill_43 ⟨Nat.le_of_ble_eq_true rfl, Nat.le_of_ble_eq_true rfl⟩) hS (fun q _ h => hFc q h) hFc (fun ra42 u t H1 locs ht hvm hwra42 hB hz1 hk1 hS => ?_)
        obtain ⟨hP1, hK1, hD1⟩ := hB
        rw [ht] at hP1
        obtain ⟨hP, hD⟩ := va_join (wr := [(h0, .inr (7, [.ref h4, .ref r0, .int v0, .int v1])), (h2, .inl (g0, 4, .inl f4)), (h4, .inl (g2, 58, .inl fn34))]) (w1 := [(h1, .inr (5, [.ref h2, .ref h3, .int v2, .int v3])), (h3, .inl (g1, 40, .inl f5))]) hP hD [1, 3] [0, 2, 4] rfl rfl (by decide) (by decide) hk1 hFc hP1 hD1
        generalize H1 = H at hP hS ⊢
        have hP := hP.sub (ws' := [(h0, .inr (7, [.ref h4, .ref r0, .int v0, .int v1])), (h1, .inr (5, [.ref h2, .ref h3, .int v2, .int v3])), (h2, .inl (g0, 4, .inl f4)), (h3, .inl (g1, 40, .inl f5)), (h4, .inl (g2, 58, .inl fn34))]) [0, 3, 1, 4, 2] rfl
        have hD := hD.sub (ws' := [(h0, .inr (7, [.ref h4, .ref r0, .int v0, .int v1])), (h1, .inr (5, [.ref h2, .ref h3, .int v2, .int v3])), (h2, .inl (g0, 4, .inl f4)), (h3, .inl (g1, 40, .inl f5)), (h4, .inl (g2, 58, .inl fn34))]) [0, 3, 1, 4, 2] (by decide) rfl
        have hP : va_P (dC, dI) vwCl [(h0, .inr (7, [.ref h4, .ref r0, .int v0, .int v1])), (h1, .inr (5, [.ref h2, .ref h3, .int v2, .int v3])), (h2, .inl (g0, 4, .inl f4)), (h3, .inl (g1, 40, .inl f5)), (h4, .inl (g2, 58, .inl fn34))] H := hP
        have hD : va_D A [(h0, .inr (7, [.ref h4, .ref r0, .int v0, .int v1])), (h1, .inr (5, [.ref h2, .ref h3, .int v2, .int v3])), (h2, .inl (g0, 4, .inl f4)), (h3, .inl (g1, 40, .inl f5)), (h4, .inl (g2, 58, .inl fn34))] := hD
        refine lv_aload_n hx hb dX7_fill_46 rfl (lv_at hl 2 rfl) ?_
        refine lv_iload_n hx hb dX7_fill_47 rfl (lv_at hl 0 rfl) ?_
        refine lv_iconst (v := 3) hx hb dX7_fill_48 (by decide) ?_
        have hPc := hP.sub (ws' := [(h1, .inr (5, [.ref h2, .ref h3, .int v2, .int v3])), (h3, .inl (g1, 40, .inl f5))]) [1, 3] rfl
        have hDc := hD.sub (ws' := [(h1, .inr (5, [.ref h2, .ref h3, .int v2, .int v3])), (h3, .inl (g1, 40, .inl f5))]) [1, 3] (by decide) rfl
        have hKc := hK.sub (tys' := [(g1, .int)]) [1] rfl
        have hFc := va_free (wc := [(h1, .inr (5, [.ref h2, .ref h3, .int v2, .int v3])), (h3, .inl (g1, 40, .inl f5))]) hD hS hA [1, 3] rfl
        refine va_calli (va_runV (As := [.int x33, .int 3]) (rest := [.int ra42, .int ra41, .int ra40, .int x33, .ref h0]) ⟨hx, hb, hml, hown, hts⟩ (k_X5_toldOf l dC dI h1 h3 h2 v2 v3 g1 f5 x33 3 ⟨by first | omega | decide, by first | omega | decide⟩ H.size) (cwV 2 hts g_X7_fill_6 rfl rfl rfl (by decide +kernel) ⟨Nat.le_of_ble_eq_true rfl, Nat.le_of_ble_eq_true rfl⟩) ⟨fun a U g mk q => by obtain ⟨q0, q1, qP, qK, qD⟩ := q; exact ⟨q0, q1, qP, va_K.moved (u := U) (U := U.calling g mk a) (Vm.Alike.refl U.vm) qK, qD⟩, va_recv hKc hPc (ci := 5) (q0 := 0) rfl rfl, fun U hU hW => ⟨rfl, by rw [hU], by rw [hU]; exact hPc, va_K.moved hW.alike hKc, hDc.weaken (fun _ _ _ _ => trivial)⟩⟩ rfl rfl hl.1 rfl (lv_room (Nat.le_of_ble_eq_true rfl)) dX7_fill_49 ⟨Nat.le_of_ble_eq_true rfl, Nat.le_of_ble_eq_true rfl⟩) hS (fun q _ h => hFc q h) hFc (fun ra43 u t H1 locs ht hvm hwra43 hB hz1 hk1 hS => ?_)
        obtain ⟨hP1, hK1, hD1⟩ := hB
        rw [ht] at hP1
        obtain ⟨hP, hD⟩ := va_join (wr := [(h0, .inr (7, [.ref h4, .ref r0, .int v0, .int v1])), (h2, .inl (g0, 4, .inl f4)), (h4, .inl (g2, 58, .inl fn34))]) (w1 := [(h1, .inr (5, [.ref h2, .ref h3, .int v2, .int v3])), (h3, .inl (g1, 40, .inl f5))]) hP hD [1, 3] [0, 2, 4] rfl rfl (by decide) (by decide) hk1 hFc hP1 hD1
        generalize H1 = H at hP hS ⊢
        have hP := hP.sub (ws' := [(h0, .inr (7, [.ref h4, .ref r0, .int v0, .int v1])), (h1, .inr (5, [.ref h2, .ref h3, .int v2, .int v3])), (h2, .inl (g0, 4, .inl f4)), (h3, .inl (g1, 40, .inl f5)), (h4, .inl (g2, 58, .inl fn34))]) [0, 3, 1, 4, 2] rfl
        have hD := hD.sub (ws' := [(h0, .inr (7, [.ref h4, .ref r0, .int v0, .int v1])), (h1, .inr (5, [.ref h2, .ref h3, .int v2, .int v3])), (h2, .inl (g0, 4, .inl f4)), (h3, .inl (g1, 40, .inl f5)), (h4, .inl (g2, 58, .inl fn34))]) [0, 3, 1, 4, 2] (by decide) rfl
        have hP : va_P (dC, dI) vwCl [(h0, .inr (7, [.ref h4, .ref r0, .int v0, .int v1])), (h1, .inr (5, [.ref h2, .ref h3, .int v2, .int v3])), (h2, .inl (g0, 4, .inl f4)), (h3, .inl (g1, 40, .inl f5)), (h4, .inl (g2, 58, .inl fn34))] H := hP
        have hD : va_D A [(h0, .inr (7, [.ref h4, .ref r0, .int v0, .int v1])), (h1, .inr (5, [.ref h2, .ref h3, .int v2, .int v3])), (h2, .inl (g0, 4, .inl f4)), (h3, .inl (g1, 40, .inl f5)), (h4, .inl (g2, 58, .inl fn34))] := hD
        refine lv_aload_n hx hb dX7_fill_52 rfl (lv_at hl 2 rfl) ?_
        refine lv_iload_n hx hb dX7_fill_53 rfl (lv_at hl 0 rfl) ?_
        refine lv_iconst (v := 4) hx hb dX7_fill_54 (by decide) ?_
        have hPc := hP.sub (ws' := [(h1, .inr (5, [.ref h2, .ref h3, .int v2, .int v3])), (h3, .inl (g1, 40, .inl f5))]) [1, 3] rfl
        have hDc := hD.sub (ws' := [(h1, .inr (5, [.ref h2, .ref h3, .int v2, .int v3])), (h3, .inl (g1, 40, .inl f5))]) [1, 3] (by decide) rfl
        have hKc := hK.sub (tys' := [(g1, .int)]) [1] rfl
        have hFc := va_free (wc := [(h1, .inr (5, [.ref h2, .ref h3, .int v2, .int v3])), (h3, .inl (g1, 40, .inl f5))]) hD hS hA [1, 3] rfl
        refine va_calli (va_runV (As := [.int x33, .int 4]) (rest := [.int ra43, .int ra42, .int ra41, .int ra40, .int x33, .ref h0]) ⟨hx, hb, hml, hown, hts⟩ (k_X5_toldOf l dC dI h1 h3 h2 v2 v3 g1 f5 x33 4 ⟨by first | omega | decide, by first | omega | decide⟩ H.size) (cwV 2 hts g_X7_fill_7 rfl rfl rfl (by decide +kernel) ⟨Nat.le_of_ble_eq_true rfl, Nat.le_of_ble_eq_true rfl⟩) ⟨fun a U g mk q => by obtain ⟨q0, q1, qP, qK, qD⟩ := q; exact ⟨q0, q1, qP, va_K.moved (u := U) (U := U.calling g mk a) (Vm.Alike.refl U.vm) qK, qD⟩, va_recv hKc hPc (ci := 5) (q0 := 0) rfl rfl, fun U hU hW => ⟨rfl, by rw [hU], by rw [hU]; exact hPc, va_K.moved hW.alike hKc, hDc.weaken (fun _ _ _ _ => trivial)⟩⟩ rfl rfl hl.1 rfl (lv_room (Nat.le_of_ble_eq_true rfl)) dX7_fill_55 ⟨Nat.le_of_ble_eq_true rfl, Nat.le_of_ble_eq_true rfl⟩) hS (fun q _ h => hFc q h) hFc (fun ra44 u t H1 locs ht hvm hwra44 hB hz1 hk1 hS => ?_)
        obtain ⟨hP1, hK1, hD1⟩ := hB
        rw [ht] at hP1
        obtain ⟨hP, hD⟩ := va_join (wr := [(h0, .inr (7, [.ref h4, .ref r0, .int v0, .int v1])), (h2, .inl (g0, 4, .inl f4)), (h4, .inl (g2, 58, .inl fn34))]) (w1 := [(h1, .inr (5, [.ref h2, .ref h3, .int v2, .int v3])), (h3, .inl (g1, 40, .inl f5))]) hP hD [1, 3] [0, 2, 4] rfl rfl (by decide) (by decide) hk1 hFc hP1 hD1
        generalize H1 = H at hP hS ⊢
        have hP := hP.sub (ws' := [(h0, .inr (7, [.ref h4, .ref r0, .int v0, .int v1])), (h1, .inr (5, [.ref h2, .ref h3, .int v2, .int v3])), (h2, .inl (g0, 4, .inl f4)), (h3, .inl (g1, 40, .inl f5)), (h4, .inl (g2, 58, .inl fn34))]) [0, 3, 1, 4, 2] rfl
        have hD := hD.sub (ws' := [(h0, .inr (7, [.ref h4, .ref r0, .int v0, .int v1])), (h1, .inr (5, [.ref h2, .ref h3, .int v2, .int v3])), (h2, .inl (g0, 4, .inl f4)), (h3, .inl (g1, 40, .inl f5)), (h4, .inl (g2, 58, .inl fn34))]) [0, 3, 1, 4, 2] (by decide) rfl
        have hP : va_P (dC, dI) vwCl [(h0, .inr (7, [.ref h4, .ref r0, .int v0, .int v1])), (h1, .inr (5, [.ref h2, .ref h3, .int v2, .int v3])), (h2, .inl (g0, 4, .inl f4)), (h3, .inl (g1, 40, .inl f5)), (h4, .inl (g2, 58, .inl fn34))] H := hP
        have hD : va_D A [(h0, .inr (7, [.ref h4, .ref r0, .int v0, .int v1])), (h1, .inr (5, [.ref h2, .ref h3, .int v2, .int v3])), (h2, .inl (g0, 4, .inl f4)), (h3, .inl (g1, 40, .inl f5)), (h4, .inl (g2, 58, .inl fn34))] := hD
        have hPc := hP.sub (ws' := [(h0, .inr (7, [.ref h4, .ref r0, .int v0, .int v1])), (h4, .inl (g2, 58, .inl fn34))]) [0, 4] rfl
        have hDc := hD.sub (ws' := [(h0, .inr (7, [.ref h4, .ref r0, .int v0, .int v1])), (h4, .inl (g2, 58, .inl fn34))]) [0, 4] (by decide) rfl
        have hKc := hK.sub (tys' := [(g2, .int)]) [2] rfl
        have hFc := va_free (wc := [(h0, .inr (7, [.ref h4, .ref r0, .int v0, .int v1])), (h4, .inl (g2, 58, .inl fn34))]) hD hS hA [0, 4] rfl
        refine va_callv (va_runV (As := [.int x33, .int ra40, .int ra41, .int ra42, .int ra43, .int ra44]) (rest := []) ⟨hx, hb, hml, hown, hts⟩ (k_X7_put l dC dI h0 h4 r0 v0 v1 g2 fn34 x33 ra40 ra41 ra42 ra43 ra44  H.size) (cwV 6 hts g_X7_fill_8 rfl rfl rfl (by decide +kernel) ⟨Nat.le_of_ble_eq_true rfl, Nat.le_of_ble_eq_true rfl⟩) ⟨fun a U g mk q => by obtain ⟨q0, q1, qP, qK, qD⟩ := q; exact ⟨q0, q1, qP, va_K.moved (u := U) (U := U.calling g mk a) (Vm.Alike.refl U.vm) qK, qD⟩, va_recv hKc hPc (ci := 7) (q0 := 0) rfl rfl, fun U hU hW => ⟨rfl, by rw [hU], by rw [hU]; exact hPc, va_K.moved hW.alike hKc, hDc.weaken (fun _ _ _ _ => trivial)⟩⟩ rfl rfl hl.1 rfl (lv_room (Nat.le_of_ble_eq_true rfl)) dX7_fill_58 ⟨Nat.le_of_ble_eq_true rfl, Nat.le_of_ble_eq_true rfl⟩) hS (fun q _ h => hFc q h) hFc (fun u t H1 locs ht hvm hwra45 hB hz1 hk1 hS => ?_)
        obtain ⟨fn46, hP1, hK1, hD1⟩ := hB
        rw [ht] at hP1
        obtain ⟨hP, hD⟩ := va_join (wr := [(h1, .inr (5, [.ref h2, .ref h3, .int v2, .int v3])), (h2, .inl (g0, 4, .inl f4)), (h3, .inl (g1, 40, .inl f5))]) (w1 := [(h0, .inr (7, [.ref h4, .ref r0, .int v0, .int v1])), (h4, .inl (g2, 58, .inl fn46))]) hP hD [0, 4] [1, 2, 3] rfl rfl (by decide) (by decide) hk1 hFc hP1 hD1
        generalize H1 = H at hP hS ⊢
        have hP := hP.sub (ws' := [(h0, .inr (7, [.ref h4, .ref r0, .int v0, .int v1])), (h1, .inr (5, [.ref h2, .ref h3, .int v2, .int v3])), (h2, .inl (g0, 4, .inl f4)), (h3, .inl (g1, 40, .inl f5)), (h4, .inl (g2, 58, .inl fn46))]) [3, 0, 1, 2, 4] rfl
        have hD := hD.sub (ws' := [(h0, .inr (7, [.ref h4, .ref r0, .int v0, .int v1])), (h1, .inr (5, [.ref h2, .ref h3, .int v2, .int v3])), (h2, .inl (g0, 4, .inl f4)), (h3, .inl (g1, 40, .inl f5)), (h4, .inl (g2, 58, .inl fn46))]) [3, 0, 1, 2, 4] (by decide) rfl
        have hP : va_P (dC, dI) vwCl [(h0, .inr (7, [.ref h4, .ref r0, .int v0, .int v1])), (h1, .inr (5, [.ref h2, .ref h3, .int v2, .int v3])), (h2, .inl (g0, 4, .inl f4)), (h3, .inl (g1, 40, .inl f5)), (h4, .inl (g2, 58, .inl fn46))] H := hP
        have hD : va_D A [(h0, .inr (7, [.ref h4, .ref r0, .int v0, .int v1])), (h1, .inr (5, [.ref h2, .ref h3, .int v2, .int v3])), (h2, .inl (g0, 4, .inl f4)), (h3, .inl (g1, 40, .inl f5)), (h4, .inl (g2, 58, .inl fn46))] := hD
        obtain ⟨t47, et47⟩ : ∃ y : Int32, y = x33 + 1 := ⟨_, rfl⟩
        have gt47 : t47.toInt = x33.toInt + (1) := pv_add (a := x33.toInt) (b := (1)) et47 rfl (by decide) (by omega) (by omega)
        refine lv_iinc (v := t47) (lv' := [(2, .int t47), (0, .ref h0), (1, .ref h1)]) hx hb dX7_fill_61 hl (k := 0) rfl (by rw [et47]; rfl) (by decide) rfl (fun ls hl => ?_)
        refine lv_goto (tgt := 18) hx hb dX7_fill_64 (by decide) ?_
        exact ih t47 fn46 H locs ls (by first | omega | decide) (by first | omega | (simp only [Int.toNat] at *; omega)) hP hD hS (lv_sub hl [0, 1, 2] rfl)
  exact hL37 _ 0 fn4 H locs ls (by first | omega | decide) (Nat.lt_succ_self _) hP hD hS (lv_sub hl [0, 1, 2] rfl)
def q_X11_openOffice : List Cond := .code yX11_openOffice cX11_openOffice 1 (some .int) :: (([.fieldLink RX11 10 "LeftArguments" "tape" "LLeftArguments$Tape;", .code yX10_cut cX10_cut 2 none, .fieldLink RX10 15 "LeftArguments$Tape" "used" "I", .methodLink RX10 28 Lib.Math.min.name, .static Lib.Math.min.name, .initialized "java/lang/Math", .code Lib.Math.min.name Lib.Math.min.code 2 (some .int), .methodLink RX10 34 Lib.Math.max.name, .static Lib.Math.max.name, .code Lib.Math.max.name Lib.Math.max.code 2 (some .int), .initialized RX10, .instanceMethod yX10_cut, .selects RX10 yX10_cut yX10_cut, .methodLink RX11 124 yX10_cut, .fieldLink RX11 42 "LeftArguments" "office" "LLeftArguments$Office;", .fieldLink RX11 21 "LeftArguments" "officeReader" "LLeftArguments$OfficeReader;", .code yX5_open cX5_open 2 none, .fieldLink RX5 11 "LeftArguments$Office" "rules" "[I", .fieldLink RX5 17 "LeftArguments$Office" "bags" "[I", .code yX6_copyTo cX6_copyTo 3 none, .fieldLink RX6 11 "LeftArguments$OfficeReader" "rules" "[I", .methodLink RX6 30 Lib.Math.min.name, .methodLink RX6 36 arraycopyName, .native arraycopyName, .static arraycopyName, .initialized "java/lang/System", .fieldLink RX6 15 "LeftArguments$OfficeReader" "bags" "[I", .initialized RX6, .instanceMethod yX6_copyTo, .selects RX6 yX6_copyTo yX6_copyTo, .methodLink RX5 28 yX6_copyTo, .code yX6_bagCount cX6_bagCount 1 (some .int), .fieldLink RX6 22 "LeftArguments$OfficeReader" "bagCount" "I", .instanceMethod yX6_bagCount, .selects RX6 yX6_bagCount yX6_bagCount, .methodLink RX5 32 yX6_bagCount, .fieldLink RX5 20 "LeftArguments$Office" "toldCount" "I", .fieldLink RX5 24 "LeftArguments$Office" "stands" "Z", .initialized RX5, .instanceMethod yX5_open, .selects RX5 yX5_open yX5_open, .methodLink RX11 140 yX5_open, .fieldLink RX11 49 "LeftArguments" "room" "LLeftArguments$Room;", .code yX7_fill cX7_fill 3 none, .code yX7_clear cX7_clear 1 none, .fieldLink RX7 11 "LeftArguments$Room" "cells" "[I", .code yJ7_fill_53178 cJ7_fill_53178 4 none, .initialized RJ7, .static yJ7_fill_53178, .methodLink RX7 46 yJ7_fill_53178, .initialized RX7, .instanceMethod yX7_clear, .selects RX7 yX7_clear yX7_clear, .methodLink RX7 25 yX7_clear, .code yX5_ruleOf cX5_ruleOf 2 (some .int), .instanceMethod yX5_ruleOf, .selects RX5 yX5_ruleOf yX5_ruleOf, .methodLink RX7 30 yX5_ruleOf, .code yX5_toldCount cX5_toldCount 1 (some .int), .instanceMethod yX5_toldCount, .selects RX5 yX5_toldCount yX5_toldCount, .methodLink RX7 34 yX5_toldCount, .code yX5_toldOf cX5_toldOf 4 (some .int), .instanceMethod yX5_toldOf, .selects RX5 yX5_toldOf yX5_toldOf, .methodLink RX7 38 yX5_toldOf, .code yX7_put cX7_put 7 none, .code yX7_set cX7_set 4 none, .instanceMethod yX7_set, .selects RX7 yX7_set yX7_set, .methodLink RX7 58 yX7_set, .instanceMethod yX7_put, .selects RX7 yX7_put yX7_put, .methodLink RX7 42 yX7_put, .instanceMethod yX7_fill, .selects RX7 yX7_fill yX7_fill, .methodLink RX11 144 yX7_fill, .fieldLink RX11 63 "LeftArguments" "acts" "LLeftArguments$Acts;", .code yX0_forget cX0_forget 1 none, .fieldLink RX0 19 "LeftArguments$Acts" "number" "I", .initialized RX0, .instanceMethod yX0_forget, .selects RX0 yX0_forget yX0_forget, .methodLink RX11 148 yX0_forget, .fieldLink RX11 79 "LeftArguments" "sightings" "LLeftArguments$Sightings;", .code yX9_forget cX9_forget 1 none, .fieldLink RX9 35 "LeftArguments$Sightings" "number" "I", .initialized RX9, .instanceMethod yX9_forget, .selects RX9 yX9_forget yX9_forget, .methodLink RX11 151 yX9_forget, .fieldLink RX11 100 "LeftArguments" "imageKept" "Z", .methodLink RX11 152 yX5_toldCount] : List Cond) ++ wsX110 ++ wsX100 ++ wsX50 ++ wsX60 ++ wsX70 ++ wsX00 ++ wsX90)
set_option maxRecDepth 20000 in
theorem g_X11_openOffice_0 : GoodIn q_X11_openOffice (wsV RX11 124 RX10 yX10_cut q_X10_cut) := goodIn_app (goodIn_r _ [14, 12, 13, 11] (by decide +kernel) (by decide +kernel)) (goodIn_ca (goodIn_r (.code yX10_cut cX10_cut 2 none :: [.fieldLink RX10 15 "LeftArguments$Tape" "used" "I", .methodLink RX10 28 Lib.Math.min.name, .static Lib.Math.min.name, .initialized "java/lang/Math", .code Lib.Math.min.name Lib.Math.min.code 2 (some .int), .methodLink RX10 34 Lib.Math.max.name, .static Lib.Math.max.name, .code Lib.Math.max.name Lib.Math.max.code 2 (some .int)]) [2, 3, 4, 5, 6, 7, 8, 9, 10] (by decide +kernel) (by decide +kernel)) (goodIn_sub (fun _ h => List.mem_cons_of_mem _ (List.mem_append_left _ (List.mem_append_left _ (List.mem_append_left _ (List.mem_append_left _ (List.mem_append_left _ (List.mem_append_right _ h))))))) gwX10))
set_option maxRecDepth 20000 in
theorem g_X11_openOffice_1 : GoodIn q_X11_openOffice (wsV RX11 140 RX5 yX5_open q_X5_open) := goodIn_app (goodIn_r _ [42, 40, 41, 39] (by decide +kernel) (by decide +kernel)) (goodIn_ca (goodIn_ca (goodIn_r (.code yX5_open cX5_open 2 none :: [.fieldLink RX5 11 "LeftArguments$Office" "rules" "[I", .fieldLink RX5 17 "LeftArguments$Office" "bags" "[I", .code yX6_copyTo cX6_copyTo 3 none, .fieldLink RX6 11 "LeftArguments$OfficeReader" "rules" "[I", .methodLink RX6 30 Lib.Math.min.name, .static Lib.Math.min.name, .initialized "java/lang/Math", .code Lib.Math.min.name Lib.Math.min.code 2 (some .int), .methodLink RX6 36 arraycopyName, .native arraycopyName, .static arraycopyName, .initialized "java/lang/System", .fieldLink RX6 15 "LeftArguments$OfficeReader" "bags" "[I", .initialized RX6, .instanceMethod yX6_copyTo, .selects RX6 yX6_copyTo yX6_copyTo, .methodLink RX5 28 yX6_copyTo, .code yX6_bagCount cX6_bagCount 1 (some .int), .fieldLink RX6 22 "LeftArguments$OfficeReader" "bagCount" "I", .instanceMethod yX6_bagCount, .selects RX6 yX6_bagCount yX6_bagCount, .methodLink RX5 32 yX6_bagCount, .fieldLink RX5 20 "LeftArguments$Office" "toldCount" "I", .fieldLink RX5 24 "LeftArguments$Office" "stands" "Z"]) [17, 18, 19, 20, 21, 22, 5, 6, 7, 23, 24, 25, 26, 27, 28, 29, 30, 31, 32, 33, 34, 35, 36, 37, 38] (by decide +kernel) (by decide +kernel)) (goodIn_sub (fun _ h => List.mem_cons_of_mem _ (List.mem_append_left _ (List.mem_append_left _ (List.mem_append_left _ (List.mem_append_left _ (List.mem_append_right _ h)))))) gwX5)) (goodIn_sub (fun _ h => List.mem_cons_of_mem _ (List.mem_append_left _ (List.mem_append_left _ (List.mem_append_left _ (List.mem_append_right _ h))))) gwX6))
set_option maxRecDepth 20000 in
theorem g_X11_openOffice_2 : GoodIn q_X11_openOffice (wsV RX11 144 RX7 yX7_fill q_X7_fill) := goodIn_app (goodIn_r _ [77, 75, 76, 51] (by decide +kernel) (by decide +kernel)) (goodIn_ca (goodIn_ca (goodIn_r (.code yX7_fill cX7_fill 3 none :: [.code yX7_clear cX7_clear 1 none, .fieldLink RX7 11 "LeftArguments$Room" "cells" "[I", .code yJ7_fill_53178 cJ7_fill_53178 4 none, .initialized RJ7, .static yJ7_fill_53178, .methodLink RX7 46 yJ7_fill_53178, .initialized RX7, .instanceMethod yX7_clear, .selects RX7 yX7_clear yX7_clear, .methodLink RX7 25 yX7_clear, .code yX5_ruleOf cX5_ruleOf 2 (some .int), .fieldLink RX5 11 "LeftArguments$Office" "rules" "[I", .initialized RX5, .instanceMethod yX5_ruleOf, .selects RX5 yX5_ruleOf yX5_ruleOf, .methodLink RX7 30 yX5_ruleOf, .code yX5_toldCount cX5_toldCount 1 (some .int), .fieldLink RX5 20 "LeftArguments$Office" "toldCount" "I", .instanceMethod yX5_toldCount, .selects RX5 yX5_toldCount yX5_toldCount, .methodLink RX7 34 yX5_toldCount, .code yX5_toldOf cX5_toldOf 4 (some .int), .fieldLink RX5 17 "LeftArguments$Office" "bags" "[I", .instanceMethod yX5_toldOf, .selects RX5 yX5_toldOf yX5_toldOf, .methodLink RX7 38 yX5_toldOf, .code yX7_put cX7_put 7 none, .code yX7_set cX7_set 4 none, .instanceMethod yX7_set, .selects RX7 yX7_set yX7_set, .methodLink RX7 58 yX7_set, .instanceMethod yX7_put, .selects RX7 yX7_put yX7_put, .methodLink RX7 42 yX7_put]) [44, 45, 46, 47, 48, 49, 50, 51, 52, 53, 54, 55, 18, 39, 56, 57, 58, 59, 37, 60, 61, 62, 63, 19, 64, 65, 66, 67, 68, 69, 70, 71, 72, 73, 74] (by decide +kernel) (by decide +kernel)) (goodIn_sub (fun _ h => List.mem_cons_of_mem _ (List.mem_append_left _ (List.mem_append_left _ (List.mem_append_right _ h)))) gwX7)) (goodIn_sub (fun _ h => List.mem_cons_of_mem _ (List.mem_append_left _ (List.mem_append_left _ (List.mem_append_left _ (List.mem_append_left _ (List.mem_append_right _ h)))))) gwX5))
set_option maxRecDepth 20000 in
theorem g_X11_openOffice_3 : GoodIn q_X11_openOffice (wsV RX11 148 RX0 yX0_forget q_X0_forget) := goodIn_app (goodIn_r _ [84, 82, 83, 81] (by decide +kernel) (by decide +kernel)) (goodIn_ca (goodIn_r (.code yX0_forget cX0_forget 1 none :: [.fieldLink RX0 19 "LeftArguments$Acts" "number" "I"]) [79, 80] (by decide +kernel) (by decide +kernel)) (goodIn_sub (fun _ h => List.mem_cons_of_mem _ (List.mem_append_left _ (List.mem_append_right _ h))) gwX0))
set_option maxRecDepth 20000 in
theorem g_X11_openOffice_4 : GoodIn q_X11_openOffice (wsV RX11 151 RX9 yX9_forget q_X9_forget) := goodIn_app (goodIn_r _ [91, 89, 90, 88] (by decide +kernel) (by decide +kernel)) (goodIn_ca (goodIn_r (.code yX9_forget cX9_forget 1 none :: [.fieldLink RX9 35 "LeftArguments$Sightings" "number" "I"]) [86, 87] (by decide +kernel) (by decide +kernel)) (goodIn_sub (fun _ h => List.mem_cons_of_mem _ (List.mem_append_right _ h)) gwX9))
set_option maxRecDepth 20000 in
theorem g_X11_openOffice_5 : GoodIn q_X11_openOffice (wsV RX11 152 RX5 yX5_toldCount q_X5_toldCount) := goodIn_app (goodIn_r _ [93, 60, 61, 39] (by decide +kernel) (by decide +kernel)) (goodIn_ca (goodIn_r (.code yX5_toldCount cX5_toldCount 1 (some .int) :: [.fieldLink RX5 20 "LeftArguments$Office" "toldCount" "I"]) [59, 37] (by decide +kernel) (by decide +kernel)) (goodIn_sub (fun _ h => List.mem_cons_of_mem _ (List.mem_append_left _ (List.mem_append_left _ (List.mem_append_left _ (List.mem_append_left _ (List.mem_append_right _ h)))))) gwX5))
set_option maxHeartbeats 4000000 in
set_option maxRecDepth 100000 in
theorem k_X11_openOffice (l : Launch) (dC : Nat → ClassId) (dI : Nat → Nat → Nat) (h0 : Nat) (h1 : Nat) (h2 : Nat) (h3 : Nat) (h4 : Nat) (h5 : Nat) (h6 : Nat) (h7 : Nat) (h8 : Nat) (h9 : Nat) (h10 : Nat) (h11 : Nat) (r0 : Nat) (r1 : Nat) (r2 : Nat) (r3 : Nat) (r4 : Nat) (r5 : Nat) (r6 : Nat) (r7 : Nat) (v0 : Int32) (v1 : Int32) (w2 : Int64) (r8 : Nat) (v3 : Int32) (v4 : Int32) (v5 : Int32) (v6 : Int32) (v7 : Int32) (v8 : Int32) (g0 : ClassId) (f9 : Nat → Int32) (g1 : ClassId) (f10 : Nat → Int32) (v11 : Int32) (v12 : Int32) (g2 : ClassId) (f13 : Nat → Int32) (g3 : ClassId) (f14 : Nat → Int32) (r9 : Nat) (r10 : Nat) (r11 : Nat) (r12 : Nat) (r13 : Nat) (r14 : Nat) (v15 : Int32) (r15 : Nat) (v16 : Int32) (v17 : Int32) (g4 : ClassId) (f18 : Nat → Int32) (r16 : Nat) (v19 : Int32) (v20 : Int32) (i_v0 : 0 ≤ v0.toInt ∧ v0.toInt ≤ 1) (i_v3 : 0 ≤ v3.toInt ∧ v3.toInt ≤ 240) (i_v8 : 0 ≤ v8.toInt ∧ v8.toInt ≤ 1) (i_v11 : 0 ≤ v11.toInt ∧ v11.toInt ≤ 1) (i_v12 : 0 ≤ v12.toInt ∧ v12.toInt ≤ 8) (i_v15 : 0 ≤ v15.toInt ∧ v15.toInt ≤ 10) (i_v19 : 0 ≤ v19.toInt ∧ v19.toInt ≤ 39) (i_v20 : 0 ≤ v20.toInt ∧ v20.toInt ≤ 40) (sz : Nat) : Met l yX11_openOffice q_X11_openOffice ({ frames := 3, cells := 0, slots := 0, locals := 103 }) (va_Pc [.ref h0] (fun U => U.heap.size = sz ∧ va_P (dC, dI) vwCl [(h0, .inr (11, [.ref h1, .ref h5, .ref r0, .ref r1, .ref h2, .ref h9, .ref r2, .ref h11, .ref r3, .ref h8, .ref r4, .ref r5, .ref r6, .ref r7, .int v0, .int v1, .long w2])), (h1, .inr (10, [.ref r8, .int v3, .int v4, .int v5, .int v6])), (h2, .inr (5, [.ref h3, .ref h4, .int v7, .int v8])), (h3, .inl (g0, 4, .inl f9)), (h4, .inl (g1, 40, .inl f10)), (h5, .inr (6, [.ref h1, .ref h6, .ref h7, .int v11, .int v12])), (h6, .inl (g2, 4, .inl f13)), (h7, .inl (g3, 40, .inl f14)), (h8, .inr (9, [.ref r1, .ref h2, .ref r9, .ref r10, .ref r11, .ref r12, .ref r13, .ref r14, .int v15])), (h9, .inr (7, [.ref h10, .ref r15, .int v16, .int v17])), (h10, .inl (g4, 58, .inl f18)), (h11, .inr (0, [.ref r16, .int v19, .int v20]))] U.heap ∧ va_K (dC, dI) vwCl [(g0, .int), (g1, .int), (g2, .int), (g3, .int), (g4, .int)] U ∧ va_D (fun _ => True) [(h0, .inr (11, [.ref h1, .ref h5, .ref r0, .ref r1, .ref h2, .ref h9, .ref r2, .ref h11, .ref r3, .ref h8, .ref r4, .ref r5, .ref r6, .ref r7, .int v0, .int v1, .long w2])), (h1, .inr (10, [.ref r8, .int v3, .int v4, .int v5, .int v6])), (h2, .inr (5, [.ref h3, .ref h4, .int v7, .int v8])), (h3, .inl (g0, 4, .inl f9)), (h4, .inl (g1, 40, .inl f10)), (h5, .inr (6, [.ref h1, .ref h6, .ref h7, .int v11, .int v12])), (h6, .inl (g2, 4, .inl f13)), (h7, .inl (g3, 40, .inl f14)), (h8, .inr (9, [.ref r1, .ref h2, .ref r9, .ref r10, .ref r11, .ref r12, .ref r13, .ref r14, .int v15])), (h9, .inr (7, [.ref h10, .ref r15, .int v16, .int v17])), (h10, .inl (g4, 58, .inl f18)), (h11, .inr (0, [.ref r16, .int v19, .int v20]))])) (va_Qi (fun (r : Int32) (_ : Unit) => True) (fun (_ : Unit) (t : State) => ∃ (o_h0_14 : Int32) (o_h1_1 : Int32) (o_h2_2 : Int32) (o_h2_3 : Int32) (o_h3 : Nat → Int32) (o_h4 : Nat → Int32) (o_h8_8 : Int32) (o_h10 : Nat → Int32) (o_h11_2 : Int32), 0 ≤ o_h0_14.toInt ∧ o_h0_14.toInt ≤ 1 ∧ 0 ≤ o_h1_1.toInt ∧ o_h1_1.toInt ≤ 240 ∧ 0 ≤ o_h2_3.toInt ∧ o_h2_3.toInt ≤ 1 ∧ 0 ≤ o_h8_8.toInt ∧ o_h8_8.toInt ≤ 10 ∧ 0 ≤ o_h11_2.toInt ∧ o_h11_2.toInt ≤ 40 ∧ va_P (dC, dI) vwCl [(h0, .inr (11, [.ref h1, .ref h5, .ref r0, .ref r1, .ref h2, .ref h9, .ref r2, .ref h11, .ref r3, .ref h8, .ref r4, .ref r5, .ref r6, .ref r7, .int o_h0_14, .int v1, .long w2])), (h1, .inr (10, [.ref r8, .int o_h1_1, .int v4, .int v5, .int v6])), (h2, .inr (5, [.ref h3, .ref h4, .int o_h2_2, .int o_h2_3])), (h3, .inl (g0, 4, .inl o_h3)), (h4, .inl (g1, 40, .inl o_h4)), (h5, .inr (6, [.ref h1, .ref h6, .ref h7, .int v11, .int v12])), (h6, .inl (g2, 4, .inl f13)), (h7, .inl (g3, 40, .inl f14)), (h8, .inr (9, [.ref r1, .ref h2, .ref r9, .ref r10, .ref r11, .ref r12, .ref r13, .ref r14, .int o_h8_8])), (h9, .inr (7, [.ref h10, .ref r15, .int v16, .int v17])), (h10, .inl (g4, 58, .inl o_h10)), (h11, .inr (0, [.ref r16, .int v19, .int o_h11_2]))] t.heap ∧ va_K (dC, dI) vwCl [] t ∧ va_D (va_A [(h0, .inr (11, [.ref h1, .ref h5, .ref r0, .ref r1, .ref h2, .ref h9, .ref r2, .ref h11, .ref r3, .ref h8, .ref r4, .ref r5, .ref r6, .ref r7, .int v0, .int v1, .long w2])), (h1, .inr (10, [.ref r8, .int v3, .int v4, .int v5, .int v6])), (h2, .inr (5, [.ref h3, .ref h4, .int v7, .int v8])), (h3, .inl (g0, 4, .inl f9)), (h4, .inl (g1, 40, .inl f10)), (h5, .inr (6, [.ref h1, .ref h6, .ref h7, .int v11, .int v12])), (h6, .inl (g2, 4, .inl f13)), (h7, .inl (g3, 40, .inl f14)), (h8, .inr (9, [.ref r1, .ref h2, .ref r9, .ref r10, .ref r11, .ref r12, .ref r13, .ref r14, .int v15])), (h9, .inr (7, [.ref h10, .ref r15, .int v16, .int v17])), (h10, .inl (g4, 58, .inl f18)), (h11, .inr (0, [.ref r16, .int v19, .int v20]))] sz) [(h0, .inr (11, [.ref h1, .ref h5, .ref r0, .ref r1, .ref h2, .ref h9, .ref r2, .ref h11, .ref r3, .ref h8, .ref r4, .ref r5, .ref r6, .ref r7, .int o_h0_14, .int v1, .long w2])), (h1, .inr (10, [.ref r8, .int o_h1_1, .int v4, .int v5, .int v6])), (h2, .inr (5, [.ref h3, .ref h4, .int o_h2_2, .int o_h2_3])), (h3, .inl (g0, 4, .inl o_h3)), (h4, .inl (g1, 40, .inl o_h4)), (h5, .inr (6, [.ref h1, .ref h6, .ref h7, .int v11, .int v12])), (h6, .inl (g2, 4, .inl f13)), (h7, .inl (g3, 40, .inl f14)), (h8, .inr (9, [.ref r1, .ref h2, .ref r9, .ref r10, .ref r11, .ref r12, .ref r13, .ref r14, .int o_h8_8])), (h9, .inr (7, [.ref h10, .ref r15, .int v16, .int v17])), (h10, .inl (g4, 58, .inl o_h10)), (h11, .inr (0, [.ref r16, .int v19, .int o_h11_2]))]) (va_A [(h0, .inr (11, [.ref h1, .ref h5, .ref r0, .ref r1, .ref h2, .ref h9, .ref r2, .ref h11, .ref r3, .ref h8, .ref r4, .ref r5, .ref r6, .ref r7, .int v0, .int v1, .long w2])), (h1, .inr (10, [.ref r8, .int v3, .int v4, .int v5, .int v6])), (h2, .inr (5, [.ref h3, .ref h4, .int v7, .int v8])), (h3, .inl (g0, 4, .inl f9)), (h4, .inl (g1, 40, .inl f10)), (h5, .inr (6, [.ref h1, .ref h6, .ref h7, .int v11, .int v12])), (h6, .inl (g2, 4, .inl f13)), (h7, .inl (g3, 40, .inl f14)), (h8, .inr (9, [.ref r1, .ref h2, .ref r9, .ref r10, .ref r11, .ref r12, .ref r13, .ref r14, .int v15])), (h9, .inr (7, [.ref h10, .ref r15, .int v16, .int v17])), (h10, .inl (g4, 58, .inl f18)), (h11, .inr (0, [.ref r16, .int v19, .int v20]))] sz)) 0 0 (va_A [(h0, .inr (11, [.ref h1, .ref h5, .ref r0, .ref r1, .ref h2, .ref h9, .ref r2, .ref h11, .ref r3, .ref h8, .ref r4, .ref r5, .ref r6, .ref r7, .int v0, .int v1, .long w2])), (h1, .inr (10, [.ref r8, .int v3, .int v4, .int v5, .int v6])), (h2, .inr (5, [.ref h3, .ref h4, .int v7, .int v8])), (h3, .inl (g0, 4, .inl f9)), (h4, .inl (g1, 40, .inl f10)), (h5, .inr (6, [.ref h1, .ref h6, .ref h7, .int v11, .int v12])), (h6, .inl (g2, 4, .inl f13)), (h7, .inl (g3, 40, .inl f14)), (h8, .inr (9, [.ref r1, .ref h2, .ref r9, .ref r10, .ref r11, .ref r12, .ref r13, .ref r14, .int v15])), (h9, .inr (7, [.ref h10, .ref r15, .int v16, .int v17])), (h10, .inl (g4, 58, .inl f18)), (h11, .inr (0, [.ref r16, .int v19, .int v20]))] sz) := by
  refine Met.ofW (cc := cX11_openOffice) (maxL := 1) (ret := (some .int)) (by decide) rfl ?_
  intro p e s m args below meth c s₁ B hml hv
  obtain ⟨i_v0a, i_v0b⟩ := i_v0
  obtain ⟨i_v3a, i_v3b⟩ := i_v3
  obtain ⟨i_v8a, i_v8b⟩ := i_v8
  obtain ⟨i_v11a, i_v11b⟩ := i_v11
  obtain ⟨i_v12a, i_v12b⟩ := i_v12
  obtain ⟨i_v15a, i_v15b⟩ := i_v15
  obtain ⟨i_v19a, i_v19b⟩ := i_v19
  obtain ⟨i_v20a, i_v20b⟩ := i_v20
  obtain ⟨rfl, hsz, hP, hK, hD0⟩ := hv
  have hx := B.exec
  have hb := B.bytes
  have hr := B.returns
  have hts := atoms_spec (ws := q_X11_openOffice) B.pre
  have hown : s.vm.findClass RX11 = some m.cls := findClass_of_methodNamed B.named
  have hlocks := B.notSynchronized
  subst hsz
  have hD := hD0.self (sz := s.heap.size)
  generalize hAe : va_A [(h0, .inr (11, [.ref h1, .ref h5, .ref r0, .ref r1, .ref h2, .ref h9, .ref r2, .ref h11, .ref r3, .ref h8, .ref r4, .ref r5, .ref r6, .ref r7, .int v0, .int v1, .long w2])), (h1, .inr (10, [.ref r8, .int v3, .int v4, .int v5, .int v6])), (h2, .inr (5, [.ref h3, .ref h4, .int v7, .int v8])), (h3, .inl (g0, 4, .inl f9)), (h4, .inl (g1, 40, .inl f10)), (h5, .inr (6, [.ref h1, .ref h6, .ref h7, .int v11, .int v12])), (h6, .inl (g2, 4, .inl f13)), (h7, .inl (g3, 40, .inl f14)), (h8, .inr (9, [.ref r1, .ref h2, .ref r9, .ref r10, .ref r11, .ref r12, .ref r13, .ref r14, .int v15])), (h9, .inr (7, [.ref h10, .ref r15, .int v16, .int v17])), (h10, .inl (g4, 58, .inl f18)), (h11, .inr (0, [.ref r16, .int v19, .int v20]))] s.heap.size = A at hD ⊢
  have hA : ∀ q : Nat, s.heap.size ≤ q → A q := fun q h => by rw [← hAe]; exact Or.inr h
  have hS : va_S A s.heap s.heap [] := va_S.rf
  generalize hQ : (MQ below _ _ s 0 0 A) = Q
  have hl := lv_entry ([.ref h0]) (n := 1) (Nat.le_of_ble_eq_true rfl)
  rw [lg_entry_eq]
  generalize (lg_sl ([.ref h0]) ++ List.replicate (1 - (lg_sl ([.ref h0])).length) Slot.unset).toArray = ls at hl ⊢
  have hl : lv_has ls 1 [(0, .ref h0)] := hl
  obtain ⟨H, hH⟩ : ∃ H : Heap, H = s.heap := ⟨_, rfl⟩
  obtain ⟨locs, hlocs⟩ : ∃ y : List Loc, y = [] := ⟨_, rfl⟩
  have hS : va_S A s.heap H locs := by rw [hH, hlocs]; exact va_S.rf
  have hP : va_P (dC, dI) vwCl [(h0, .inr (11, [.ref h1, .ref h5, .ref r0, .ref r1, .ref h2, .ref h9, .ref r2, .ref h11, .ref r3, .ref h8, .ref r4, .ref r5, .ref r6, .ref r7, .int v0, .int v1, .long w2])), (h1, .inr (10, [.ref r8, .int v3, .int v4, .int v5, .int v6])), (h2, .inr (5, [.ref h3, .ref h4, .int v7, .int v8])), (h3, .inl (g0, 4, .inl f9)), (h4, .inl (g1, 40, .inl f10)), (h5, .inr (6, [.ref h1, .ref h6, .ref h7, .int v11, .int v12])), (h6, .inl (g2, 4, .inl f13)), (h7, .inl (g3, 40, .inl f14)), (h8, .inr (9, [.ref r1, .ref h2, .ref r9, .ref r10, .ref r11, .ref r12, .ref r13, .ref r14, .int v15])), (h9, .inr (7, [.ref h10, .ref r15, .int v16, .int v17])), (h10, .inl (g4, 58, .inl f18)), (h11, .inr (0, [.ref r16, .int v19, .int v20]))] H := by rw [hH]; exact hP
  rw [← hH, ← hlocs]
  refine lv_aload_n hx hb dX11_openOffice_0 rfl (lv_at hl 0 rfl) ?_
  refine va_get (D := (dC, dI)) (ci := 11) (v := .ref h1) (C := RX11) (T := TX11) (N := 17) hx hb hts (fun _ h => List.mem_cons_of_mem _ (List.mem_append_left _ (List.mem_append_left _ (List.mem_append_left _ (List.mem_append_left _ (List.mem_append_left _ (List.mem_append_left _ (List.mem_append_right _ h)))))))) hown hK hP 0 rfl rfl 0 (by decide) (hts (.fieldLink RX11 10 "LeftArguments" "tape" "LLeftArguments$Tape;") (List.mem_cons_of_mem _ (List.mem_append_left _ (List.mem_append_left _ (List.mem_append_left _ (List.mem_append_left _ (List.mem_append_left _ (List.mem_append_left _ (List.mem_append_left _ (List.mem_of_getElem? (i := 0) rfl)))))))))) (fun _ h9 => h9) rfl dX11_openOffice_1 ?_
  refine lv_iconst (v := 0) hx hb dX11_openOffice_4 (by decide) ?_
  have hPc := hP.sub (ws' := [(h1, .inr (10, [.ref r8, .int v3, .int v4, .int v5, .int v6]))]) [1] rfl
  have hDc := hD.sub (ws' := [(h1, .inr (10, [.ref r8, .int v3, .int v4, .int v5, .int v6]))]) [1] (by decide) rfl
  have hKc := hK.sub (tys' := []) [] rfl
  have hFc := va_free (wc := [(h1, .inr (10, [.ref r8, .int v3, .int v4, .int v5, .int v6]))]) hD hS hA [1] rfl
  refine va_callv (va_runV (As := [.int 0]) (rest := []) ⟨hx, hb, hml, hown, hts⟩ (k_X10_cut l dC dI h1 r8 v3 v4 v5 v6 0 ⟨by first | omega | decide, by first | omega | decide⟩ H.size) (cwV 1 hts g_X11_openOffice_0 rfl rfl rfl (by decide +kernel) ⟨Nat.le_of_ble_eq_true rfl, Nat.le_of_ble_eq_true rfl⟩) ⟨fun a U g mk q => by obtain ⟨q0, q1, qP, qK, qD⟩ := q; exact ⟨q0, q1, qP, va_K.moved (u := U) (U := U.calling g mk a) (Vm.Alike.refl U.vm) qK, qD⟩, va_recv hKc hPc (ci := 10) (q0 := 0) rfl rfl, fun U hU hW => ⟨rfl, by rw [hU], by rw [hU]; exact hPc, va_K.moved hW.alike hKc, hDc.weaken (fun _ _ _ _ => trivial)⟩⟩ rfl rfl hl.1 rfl (lv_room (Nat.le_of_ble_eq_true rfl)) dX11_openOffice_5 ⟨Nat.le_of_ble_eq_true rfl, Nat.le_of_ble_eq_true rfl⟩) hS (fun q _ h => hFc q h) hFc (fun u t H1 locs ht hvm hwra1 hB hz1 hk1 hS => ?_)
  obtain ⟨x2, oa_x2, ob_x2, hP1, hK1, hD1⟩ := hB
  rw [ht] at hP1
  obtain ⟨hP, hD⟩ := va_join (wr := [(h0, .inr (11, [.ref h1, .ref h5, .ref r0, .ref r1, .ref h2, .ref h9, .ref r2, .ref h11, .ref r3, .ref h8, .ref r4, .ref r5, .ref r6, .ref r7, .int v0, .int v1, .long w2])), (h2, .inr (5, [.ref h3, .ref h4, .int v7, .int v8])), (h3, .inl (g0, 4, .inl f9)), (h4, .inl (g1, 40, .inl f10)), (h5, .inr (6, [.ref h1, .ref h6, .ref h7, .int v11, .int v12])), (h6, .inl (g2, 4, .inl f13)), (h7, .inl (g3, 40, .inl f14)), (h8, .inr (9, [.ref r1, .ref h2, .ref r9, .ref r10, .ref r11, .ref r12, .ref r13, .ref r14, .int v15])), (h9, .inr (7, [.ref h10, .ref r15, .int v16, .int v17])), (h10, .inl (g4, 58, .inl f18)), (h11, .inr (0, [.ref r16, .int v19, .int v20]))]) (w1 := [(h1, .inr (10, [.ref r8, .int x2, .int v4, .int v5, .int v6]))]) hP hD [1] [0, 2, 3, 4, 5, 6, 7, 8, 9, 10, 11] rfl rfl (by decide) (by decide) hk1 hFc hP1 hD1
  generalize H1 = H at hP hS ⊢
  have hP := hP.sub (ws' := [(h0, .inr (11, [.ref h1, .ref h5, .ref r0, .ref r1, .ref h2, .ref h9, .ref r2, .ref h11, .ref r3, .ref h8, .ref r4, .ref r5, .ref r6, .ref r7, .int v0, .int v1, .long w2])), (h1, .inr (10, [.ref r8, .int x2, .int v4, .int v5, .int v6])), (h2, .inr (5, [.ref h3, .ref h4, .int v7, .int v8])), (h3, .inl (g0, 4, .inl f9)), (h4, .inl (g1, 40, .inl f10)), (h5, .inr (6, [.ref h1, .ref h6, .ref h7, .int v11, .int v12])), (h6, .inl (g2, 4, .inl f13)), (h7, .inl (g3, 40, .inl f14)), (h8, .inr (9, [.ref r1, .ref h2, .ref r9, .ref r10, .ref r11, .ref r12, .ref r13, .ref r14, .int v15])), (h9, .inr (7, [.ref h10, .ref r15, .int v16, .int v17])), (h10, .inl (g4, 58, .inl f18)), (h11, .inr (0, [.ref r16, .int v19, .int v20]))]) [0, 11, 1, 2, 3, 4, 5, 6, 7, 8, 9, 10] rfl
  have hD := hD.sub (ws' := [(h0, .inr (11, [.ref h1, .ref h5, .ref r0, .ref r1, .ref h2, .ref h9, .ref r2, .ref h11, .ref r3, .ref h8, .ref r4, .ref r5, .ref r6, .ref r7, .int v0, .int v1, .long w2])), (h1, .inr (10, [.ref r8, .int x2, .int v4, .int v5, .int v6])), (h2, .inr (5, [.ref h3, .ref h4, .int v7, .int v8])), (h3, .inl (g0, 4, .inl f9)), (h4, .inl (g1, 40, .inl f10)), (h5, .inr (6, [.ref h1, .ref h6, .ref h7, .int v11, .int v12])), (h6, .inl (g2, 4, .inl f13)), (h7, .inl (g3, 40, .inl f14)), (h8, .inr (9, [.ref r1, .ref h2, .ref r9, .ref r10, .ref r11, .ref r12, .ref r13, .ref r14, .int v15])), (h9, .inr (7, [.ref h10, .ref r15, .int v16, .int v17])), (h10, .inl (g4, 58, .inl f18)), (h11, .inr (0, [.ref r16, .int v19, .int v20]))]) [0, 11, 1, 2, 3, 4, 5, 6, 7, 8, 9, 10] (by decide) rfl
  have hP : va_P (dC, dI) vwCl [(h0, .inr (11, [.ref h1, .ref h5, .ref r0, .ref r1, .ref h2, .ref h9, .ref r2, .ref h11, .ref r3, .ref h8, .ref r4, .ref r5, .ref r6, .ref r7, .int v0, .int v1, .long w2])), (h1, .inr (10, [.ref r8, .int x2, .int v4, .int v5, .int v6])), (h2, .inr (5, [.ref h3, .ref h4, .int v7, .int v8])), (h3, .inl (g0, 4, .inl f9)), (h4, .inl (g1, 40, .inl f10)), (h5, .inr (6, [.ref h1, .ref h6, .ref h7, .int v11, .int v12])), (h6, .inl (g2, 4, .inl f13)), (h7, .inl (g3, 40, .inl f14)), (h8, .inr (9, [.ref r1, .ref h2, .ref r9, .ref r10, .ref r11, .ref r12, .ref r13, .ref r14, .int v15])), (h9, .inr (7, [.ref h10, .ref r15, .int v16, .int v17])), (h10, .inl (g4, 58, .inl f18)), (h11, .inr (0, [.ref r16, .int v19, .int v20]))] H := hP
  have hD : va_D A [(h0, .inr (11, [.ref h1, .ref h5, .ref r0, .ref r1, .ref h2, .ref h9, .ref r2, .ref h11, .ref r3, .ref h8, .ref r4, .ref r5, .ref r6, .ref r7, .int v0, .int v1, .long w2])), (h1, .inr (10, [.ref r8, .int x2, .int v4, .int v5, .int v6])), (h2, .inr (5, [.ref h3, .ref h4, .int v7, .int v8])), (h3, .inl (g0, 4, .inl f9)), (h4, .inl (g1, 40, .inl f10)), (h5, .inr (6, [.ref h1, .ref h6, .ref h7, .int v11, .int v12])), (h6, .inl (g2, 4, .inl f13)), (h7, .inl (g3, 40, .inl f14)), (h8, .inr (9, [.ref r1, .ref h2, .ref r9, .ref r10, .ref r11, .ref r12, .ref r13, .ref r14, .int v15])), (h9, .inr (7, [.ref h10, .ref r15, .int v16, .int v17])), (h10, .inl (g4, 58, .inl f18)), (h11, .inr (0, [.ref r16, .int v19, .int v20]))] := hD
  refine lv_aload_n hx hb dX11_openOffice_8 rfl (lv_at hl 0 rfl) ?_
  refine va_get (D := (dC, dI)) (ci := 11) (v := .ref h2) (C := RX11) (T := TX11) (N := 17) hx hb hts (fun _ h => List.mem_cons_of_mem _ (List.mem_append_left _ (List.mem_append_left _ (List.mem_append_left _ (List.mem_append_left _ (List.mem_append_left _ (List.mem_append_left _ (List.mem_append_right _ h)))))))) hown hK hP 0 rfl rfl 4 (by decide) (hts (.fieldLink RX11 42 "LeftArguments" "office" "LLeftArguments$Office;") (List.mem_cons_of_mem _ (List.mem_append_left _ (List.mem_append_left _ (List.mem_append_left _ (List.mem_append_left _ (List.mem_append_left _ (List.mem_append_left _ (List.mem_append_left _ (List.mem_of_getElem? (i := 14) rfl)))))))))) (fun _ h9 => h9) rfl dX11_openOffice_9 ?_
  refine lv_aload_n hx hb dX11_openOffice_12 rfl (lv_at hl 0 rfl) ?_
  refine va_get (D := (dC, dI)) (ci := 11) (v := .ref h5) (C := RX11) (T := TX11) (N := 17) hx hb hts (fun _ h => List.mem_cons_of_mem _ (List.mem_append_left _ (List.mem_append_left _ (List.mem_append_left _ (List.mem_append_left _ (List.mem_append_left _ (List.mem_append_left _ (List.mem_append_right _ h)))))))) hown hK hP 0 rfl rfl 1 (by decide) (hts (.fieldLink RX11 21 "LeftArguments" "officeReader" "LLeftArguments$OfficeReader;") (List.mem_cons_of_mem _ (List.mem_append_left _ (List.mem_append_left _ (List.mem_append_left _ (List.mem_append_left _ (List.mem_append_left _ (List.mem_append_left _ (List.mem_append_left _ (List.mem_of_getElem? (i := 15) rfl)))))))))) (fun _ h9 => h9) rfl dX11_openOffice_13 ?_
  have hPc := hP.sub (ws' := [(h2, .inr (5, [.ref h3, .ref h4, .int v7, .int v8])), (h3, .inl (g0, 4, .inl f9)), (h4, .inl (g1, 40, .inl f10)), (h5, .inr (6, [.ref h1, .ref h6, .ref h7, .int v11, .int v12])), (h6, .inl (g2, 4, .inl f13)), (h7, .inl (g3, 40, .inl f14))]) [2, 3, 4, 5, 6, 7] rfl
  have hDc := hD.sub (ws' := [(h2, .inr (5, [.ref h3, .ref h4, .int v7, .int v8])), (h3, .inl (g0, 4, .inl f9)), (h4, .inl (g1, 40, .inl f10)), (h5, .inr (6, [.ref h1, .ref h6, .ref h7, .int v11, .int v12])), (h6, .inl (g2, 4, .inl f13)), (h7, .inl (g3, 40, .inl f14))]) [2, 3, 4, 5, 6, 7] (by decide) rfl
  have hKc := hK.sub (tys' := [(g0, .int), (g1, .int), (g2, .int), (g3, .int)]) [0, 1, 2, 3] rfl
  have hFc := va_free (wc := [(h2, .inr (5, [.ref h3, .ref h4, .int v7, .int v8])), (h3, .inl (g0, 4, .inl f9)), (h4, .inl (g1, 40, .inl f10)), (h5, .inr (6, [.ref h1, .ref h6, .ref h7, .int v11, .int v12])), (h6, .inl (g2, 4, .inl f13)), (h7, .inl (g3, 40, .inl f14))]) hD hS hA [2, 3, 4, 5, 6, 7] rfl
  refine va_callv (va_runV (As := [.ref h5]) (rest := []) ⟨hx, hb, hml, hown, hts⟩ (k_X5_open l dC dI h2 h3 h4 h5 h6 h7 v7 v8 g0 f9 g1 f10 h1 v11 v12 g2 f13 g3 f14 ⟨by first | omega | decide, by first | omega | decide⟩ ⟨by first | omega | decide, by first | omega | decide⟩ ⟨by first | omega | decide, by first | omega | decide⟩ H.size) (cwV 1 hts g_X11_openOffice_1 rfl rfl rfl (by decide +kernel) ⟨Nat.le_of_ble_eq_true rfl, Nat.le_of_ble_eq_true rfl⟩) ⟨fun a U g mk q => by obtain ⟨q0, q1, qP, qK, qD⟩ := q; exact ⟨q0, q1, qP, va_K.moved (u := U) (U := U.calling g mk a) (Vm.Alike.refl U.vm) qK, qD⟩, va_recv hKc hPc (ci := 5) (q0 := 0) rfl rfl, fun U hU hW => ⟨rfl, by rw [hU], by rw [hU]; exact hPc, va_K.moved hW.alike hKc, hDc.weaken (fun _ _ _ _ => trivial)⟩⟩ rfl rfl hl.1 rfl (lv_room (Nat.le_of_ble_eq_true rfl)) dX11_openOffice_16 ⟨Nat.le_of_ble_eq_true rfl, Nat.le_of_ble_eq_true rfl⟩) hS (fun q _ h => hFc q h) hFc (fun u t H1 locs ht hvm hwra3 hB hz1 hk1 hS => ?_)
  obtain ⟨x4, x5, fn6, fn7, oa_x5, ob_x5, hP1, hK1, hD1⟩ := hB
  rw [ht] at hP1
  obtain ⟨hP, hD⟩ := va_join (wr := [(h0, .inr (11, [.ref h1, .ref h5, .ref r0, .ref r1, .ref h2, .ref h9, .ref r2, .ref h11, .ref r3, .ref h8, .ref r4, .ref r5, .ref r6, .ref r7, .int v0, .int v1, .long w2])), (h1, .inr (10, [.ref r8, .int x2, .int v4, .int v5, .int v6])), (h8, .inr (9, [.ref r1, .ref h2, .ref r9, .ref r10, .ref r11, .ref r12, .ref r13, .ref r14, .int v15])), (h9, .inr (7, [.ref h10, .ref r15, .int v16, .int v17])), (h10, .inl (g4, 58, .inl f18)), (h11, .inr (0, [.ref r16, .int v19, .int v20]))]) (w1 := [(h2, .inr (5, [.ref h3, .ref h4, .int x4, .int x5])), (h3, .inl (g0, 4, .inl fn6)), (h4, .inl (g1, 40, .inl fn7)), (h5, .inr (6, [.ref h1, .ref h6, .ref h7, .int v11, .int v12])), (h6, .inl (g2, 4, .inl f13)), (h7, .inl (g3, 40, .inl f14))]) hP hD [2, 3, 4, 5, 6, 7] [0, 1, 8, 9, 10, 11] rfl rfl (by decide) (by decide) hk1 hFc hP1 hD1
  generalize H1 = H at hP hS ⊢
  have hP := hP.sub (ws' := [(h0, .inr (11, [.ref h1, .ref h5, .ref r0, .ref r1, .ref h2, .ref h9, .ref r2, .ref h11, .ref r3, .ref h8, .ref r4, .ref r5, .ref r6, .ref r7, .int v0, .int v1, .long w2])), (h1, .inr (10, [.ref r8, .int x2, .int v4, .int v5, .int v6])), (h2, .inr (5, [.ref h3, .ref h4, .int x4, .int x5])), (h3, .inl (g0, 4, .inl fn6)), (h4, .inl (g1, 40, .inl fn7)), (h5, .inr (6, [.ref h1, .ref h6, .ref h7, .int v11, .int v12])), (h6, .inl (g2, 4, .inl f13)), (h7, .inl (g3, 40, .inl f14)), (h8, .inr (9, [.ref r1, .ref h2, .ref r9, .ref r10, .ref r11, .ref r12, .ref r13, .ref r14, .int v15])), (h9, .inr (7, [.ref h10, .ref r15, .int v16, .int v17])), (h10, .inl (g4, 58, .inl f18)), (h11, .inr (0, [.ref r16, .int v19, .int v20]))]) [0, 1, 6, 7, 8, 9, 10, 11, 2, 3, 4, 5] rfl
  have hD := hD.sub (ws' := [(h0, .inr (11, [.ref h1, .ref h5, .ref r0, .ref r1, .ref h2, .ref h9, .ref r2, .ref h11, .ref r3, .ref h8, .ref r4, .ref r5, .ref r6, .ref r7, .int v0, .int v1, .long w2])), (h1, .inr (10, [.ref r8, .int x2, .int v4, .int v5, .int v6])), (h2, .inr (5, [.ref h3, .ref h4, .int x4, .int x5])), (h3, .inl (g0, 4, .inl fn6)), (h4, .inl (g1, 40, .inl fn7)), (h5, .inr (6, [.ref h1, .ref h6, .ref h7, .int v11, .int v12])), (h6, .inl (g2, 4, .inl f13)), (h7, .inl (g3, 40, .inl f14)), (h8, .inr (9, [.ref r1, .ref h2, .ref r9, .ref r10, .ref r11, .ref r12, .ref r13, .ref r14, .int v15])), (h9, .inr (7, [.ref h10, .ref r15, .int v16, .int v17])), (h10, .inl (g4, 58, .inl f18)), (h11, .inr (0, [.ref r16, .int v19, .int v20]))]) [0, 1, 6, 7, 8, 9, 10, 11, 2, 3, 4, 5] (by decide) rfl
  have hP : va_P (dC, dI) vwCl [(h0, .inr (11, [.ref h1, .ref h5, .ref r0, .ref r1, .ref h2, .ref h9, .ref r2, .ref h11, .ref r3, .ref h8, .ref r4, .ref r5, .ref r6, .ref r7, .int v0, .int v1, .long w2])), (h1, .inr (10, [.ref r8, .int x2, .int v4, .int v5, .int v6])), (h2, .inr (5, [.ref h3, .ref h4, .int x4, .int x5])), (h3, .inl (g0, 4, .inl fn6)), (h4, .inl (g1, 40, .inl fn7)), (h5, .inr (6, [.ref h1, .ref h6, .ref h7, .int v11, .int v12])), (h6, .inl (g2, 4, .inl f13)), (h7, .inl (g3, 40, .inl f14)), (h8, .inr (9, [.ref r1, .ref h2, .ref r9, .ref r10, .ref r11, .ref r12, .ref r13, .ref r14, .int v15])), (h9, .inr (7, [.ref h10, .ref r15, .int v16, .int v17])), (h10, .inl (g4, 58, .inl f18)), (h11, .inr (0, [.ref r16, .int v19, .int v20]))] H := hP
  have hD : va_D A [(h0, .inr (11, [.ref h1, .ref h5, .ref r0, .ref r1, .ref h2, .ref h9, .ref r2, .ref h11, .ref r3, .ref h8, .ref r4, .ref r5, .ref r6, .ref r7, .int v0, .int v1, .long w2])), (h1, .inr (10, [.ref r8, .int x2, .int v4, .int v5, .int v6])), (h2, .inr (5, [.ref h3, .ref h4, .int x4, .int x5])), (h3, .inl (g0, 4, .inl fn6)), (h4, .inl (g1, 40, .inl fn7)), (h5, .inr (6, [.ref h1, .ref h6, .ref h7, .int v11, .int v12])), (h6, .inl (g2, 4, .inl f13)), (h7, .inl (g3, 40, .inl f14)), (h8, .inr (9, [.ref r1, .ref h2, .ref r9, .ref r10, .ref r11, .ref r12, .ref r13, .ref r14, .int v15])), (h9, .inr (7, [.ref h10, .ref r15, .int v16, .int v17])), (h10, .inl (g4, 58, .inl f18)), (h11, .inr (0, [.ref r16, .int v19, .int v20]))] := hD
  refine lv_aload_n hx hb dX11_openOffice_19 rfl (lv_at hl 0 rfl) ?_
  refine va_get (D := (dC, dI)) (ci := 11) (v := .ref h9) (C := RX11) (T := TX11) (N := 17) hx hb hts (fun _ h => List.mem_cons_of_mem _ (List.mem_append_left _ (List.mem_append_left _ (List.mem_append_left _ (List.mem_append_left _ (List.mem_append_left _ (List.mem_append_left _ (List.mem_append_right _ h)))))))) hown hK hP 0 rfl rfl 5 (by decide) (hts (.fieldLink RX11 49 "LeftArguments" "room" "LLeftArguments$Room;") (List.mem_cons_of_mem _ (List.mem_append_left _ (List.mem_append_left _ (List.mem_append_left _ (List.mem_append_left _ (List.mem_append_left _ (List.mem_append_left _ (List.mem_append_left _ (List.mem_of_getElem? (i := 42) rfl)))))))))) (fun _ h9 => h9) rfl dX11_openOffice_20 ?_
  refine lv_aload_n hx hb dX11_openOffice_23 rfl (lv_at hl 0 rfl) ?_
  refine va_get (D := (dC, dI)) (ci := 11) (v := .ref h2) (C := RX11) (T := TX11) (N := 17) hx hb hts (fun _ h => List.mem_cons_of_mem _ (List.mem_append_left _ (List.mem_append_left _ (List.mem_append_left _ (List.mem_append_left _ (List.mem_append_left _ (List.mem_append_left _ (List.mem_append_right _ h)))))))) hown hK hP 0 rfl rfl 4 (by decide) (hts (.fieldLink RX11 42 "LeftArguments" "office" "LLeftArguments$Office;") (List.mem_cons_of_mem _ (List.mem_append_left _ (List.mem_append_left _ (List.mem_append_left _ (List.mem_append_left _ (List.mem_append_left _ (List.mem_append_left _ (List.mem_append_left _ (List.mem_of_getElem? (i := 14) rfl)))))))))) (fun _ h9 => h9) rfl dX11_openOffice_24 ?_
  have hPc := hP.sub (ws' := [(h9, .inr (7, [.ref h10, .ref r15, .int v16, .int v17])), (h2, .inr (5, [.ref h3, .ref h4, .int x4, .int x5])), (h3, .inl (g0, 4, .inl fn6)), (h4, .inl (g1, 40, .inl fn7)), (h10, .inl (g4, 58, .inl f18))]) [9, 2, 3, 4, 10] rfl
  have hDc := hD.sub (ws' := [(h9, .inr (7, [.ref h10, .ref r15, .int v16, .int v17])), (h2, .inr (5, [.ref h3, .ref h4, .int x4, .int x5])), (h3, .inl (g0, 4, .inl fn6)), (h4, .inl (g1, 40, .inl fn7)), (h10, .inl (g4, 58, .inl f18))]) [9, 2, 3, 4, 10] (by decide) rfl
  have hKc := hK.sub (tys' := [(g0, .int), (g1, .int), (g4, .int)]) [0, 1, 4] rfl
  have hFc := va_free (wc := [(h9, .inr (7, [.ref h10, .ref r15, .int v16, .int v17])), (h2, .inr (5, [.ref h3, .ref h4, .int x4, .int x5])), (h3, .inl (g0, 4, .inl fn6)), (h4, .inl (g1, 40, .inl fn7)), (h10, .inl (g4, 58, .inl f18))]) hD hS hA [9, 2, 3, 4, 10] rfl
  refine va_callv (va_runV (As := [.ref h2]) (rest := []) ⟨hx, hb, hml, hown, hts⟩ (k_X7_fill l dC dI h9 h2 h3 h4 h10 r15 v16 v17 x4 x5 g0 fn6 g1 fn7 g4 f18 ⟨by first | omega | decide, by first | omega | decide⟩ H.size) (cwV 1 hts g_X11_openOffice_2 rfl rfl rfl (by decide +kernel) ⟨Nat.le_of_ble_eq_true rfl, Nat.le_of_ble_eq_true rfl⟩) ⟨fun a U g mk q => by obtain ⟨q0, q1, qP, qK, qD⟩ := q; exact ⟨q0, q1, qP, va_K.moved (u := U) (U := U.calling g mk a) (Vm.Alike.refl U.vm) qK, qD⟩, va_recv hKc hPc (ci := 7) (q0 := 0) rfl rfl, fun U hU hW => ⟨rfl, by rw [hU], by rw [hU]; exact hPc, va_K.moved hW.alike hKc, hDc.weaken (fun _ _ _ _ => trivial)⟩⟩ rfl rfl hl.1 rfl (lv_room (Nat.le_of_ble_eq_true rfl)) dX11_openOffice_27 ⟨Nat.le_of_ble_eq_true rfl, Nat.le_of_ble_eq_true rfl⟩) hS (fun q _ h => hFc q h) hFc (fun u t H1 locs ht hvm hwra8 hB hz1 hk1 hS => ?_)
  obtain ⟨fn9, hP1, hK1, hD1⟩ := hB
  rw [ht] at hP1
  obtain ⟨hP, hD⟩ := va_join (wr := [(h0, .inr (11, [.ref h1, .ref h5, .ref r0, .ref r1, .ref h2, .ref h9, .ref r2, .ref h11, .ref r3, .ref h8, .ref r4, .ref r5, .ref r6, .ref r7, .int v0, .int v1, .long w2])), (h1, .inr (10, [.ref r8, .int x2, .int v4, .int v5, .int v6])), (h5, .inr (6, [.ref h1, .ref h6, .ref h7, .int v11, .int v12])), (h6, .inl (g2, 4, .inl f13)), (h7, .inl (g3, 40, .inl f14)), (h8, .inr (9, [.ref r1, .ref h2, .ref r9, .ref r10, .ref r11, .ref r12, .ref r13, .ref r14, .int v15])), (h11, .inr (0, [.ref r16, .int v19, .int v20]))]) (w1 := [(h9, .inr (7, [.ref h10, .ref r15, .int v16, .int v17])), (h2, .inr (5, [.ref h3, .ref h4, .int x4, .int x5])), (h3, .inl (g0, 4, .inl fn6)), (h4, .inl (g1, 40, .inl fn7)), (h10, .inl (g4, 58, .inl fn9))]) hP hD [9, 2, 3, 4, 10] [0, 1, 5, 6, 7, 8, 11] rfl rfl (by decide) (by decide) hk1 hFc hP1 hD1
  generalize H1 = H at hP hS ⊢
  have hP := hP.sub (ws' := [(h0, .inr (11, [.ref h1, .ref h5, .ref r0, .ref r1, .ref h2, .ref h9, .ref r2, .ref h11, .ref r3, .ref h8, .ref r4, .ref r5, .ref r6, .ref r7, .int v0, .int v1, .long w2])), (h1, .inr (10, [.ref r8, .int x2, .int v4, .int v5, .int v6])), (h2, .inr (5, [.ref h3, .ref h4, .int x4, .int x5])), (h3, .inl (g0, 4, .inl fn6)), (h4, .inl (g1, 40, .inl fn7)), (h5, .inr (6, [.ref h1, .ref h6, .ref h7, .int v11, .int v12])), (h6, .inl (g2, 4, .inl f13)), (h7, .inl (g3, 40, .inl f14)), (h8, .inr (9, [.ref r1, .ref h2, .ref r9, .ref r10, .ref r11, .ref r12, .ref r13, .ref r14, .int v15])), (h9, .inr (7, [.ref h10, .ref r15, .int v16, .int v17])), (h10, .inl (g4, 58, .inl fn9)), (h11, .inr (0, [.ref r16, .int v19, .int v20]))]) [0, 1, 8, 9, 10, 2, 3, 4, 5, 7, 11, 6] rfl
  have hD := hD.sub (ws' := [(h0, .inr (11, [.ref h1, .ref h5, .ref r0, .ref r1, .ref h2, .ref h9, .ref r2, .ref h11, .ref r3, .ref h8, .ref r4, .ref r5, .ref r6, .ref r7, .int v0, .int v1, .long w2])), (h1, .inr (10, [.ref r8, .int x2, .int v4, .int v5, .int v6])), (h2, .inr (5, [.ref h3, .ref h4, .int x4, .int x5])), (h3, .inl (g0, 4, .inl fn6)), (h4, .inl (g1, 40, .inl fn7)), (h5, .inr (6, [.ref h1, .ref h6, .ref h7, .int v11, .int v12])), (h6, .inl (g2, 4, .inl f13)), (h7, .inl (g3, 40, .inl f14)), (h8, .inr (9, [.ref r1, .ref h2, .ref r9, .ref r10, .ref r11, .ref r12, .ref r13, .ref r14, .int v15])), (h9, .inr (7, [.ref h10, .ref r15, .int v16, .int v17])), (h10, .inl (g4, 58, .inl fn9)), (h11, .inr (0, [.ref r16, .int v19, .int v20]))]) [0, 1, 8, 9, 10, 2, 3, 4, 5, 7, 11, 6] (by decide) rfl
  have hP : va_P (dC, dI) vwCl [(h0, .inr (11, [.ref h1, .ref h5, .ref r0, .ref r1, .ref h2, .ref h9, .ref r2, .ref h11, .ref r3, .ref h8, .ref r4, .ref r5, .ref r6, .ref r7, .int v0, .int v1, .long w2])), (h1, .inr (10, [.ref r8, .int x2, .int v4, .int v5, .int v6])), (h2, .inr (5, [.ref h3, .ref h4, .int x4, .int x5])), (h3, .inl (g0, 4, .inl fn6)), (h4, .inl (g1, 40, .inl fn7)), (h5, .inr (6, [.ref h1, .ref h6, .ref h7, .int v11, .int v12])), (h6, .inl (g2, 4, .inl f13)), (h7, .inl (g3, 40, .inl f14)), (h8, .inr (9, [.ref r1, .ref h2, .ref r9, .ref r10, .ref r11, .ref r12, .ref r13, .ref r14, .int v15])), (h9, .inr (7, [.ref h10, .ref r15, .int v16, .int v17])), (h10, .inl (g4, 58, .inl fn9)), (h11, .inr (0, [.ref r16, .int v19, .int v20]))] H := hP
  have hD : va_D A [(h0, .inr (11, [.ref h1, .ref h5, .ref r0, .ref r1, .ref h2, .ref h9, .ref r2, .ref h11, .ref r3, .ref h8, .ref r4, .ref r5, .ref r6, .ref r7, .int v0, .int v1, .long w2])), (h1, .inr (10, [.ref r8, .int x2, .int v4, .int v5, .int v6])), (h2, .inr (5, [.ref h3, .ref h4, .int x4, .int x5])), (h3, .inl (g0, 4, .inl fn6)), (h4, .inl (g1, 40, .inl fn7)), (h5, .inr (6, [.ref h1, .ref h6, .ref h7, .int v11, .int v12])), (h6, .inl (g2, 4, .inl f13)), (h7, .inl (g3, 40, .inl f14)), (h8, .inr (9, [.ref r1, .ref h2, .ref r9, .ref r10, .ref r11, .ref r12, .ref r13, .ref r14, .int v15])), (h9, .inr (7, [.ref h10, .ref r15, .int v16, .int v17])), (h10, .inl (g4, 58, .inl fn9)), (h11, .inr (0, [.ref r16, .int v19, .int v20]))] := hD
  refine lv_aload_n hx hb dX11_openOffice_30 rfl (lv_at hl 0 rfl) ?_
  refine va_get (D := (dC, dI)) (ci := 11) (v := .ref h11) (C := RX11) (T := TX11) (N := 17) hx hb hts (fun _ h => List.mem_cons_of_mem _ (List.mem_append_left _ (List.mem_append_left _ (List.mem_append_left _ (List.mem_append_left _ (List.mem_append_left _ (List.mem_append_left _ (List.mem_append_right _ h)))))))) hown hK hP 0 rfl rfl 7 (by decide) (hts (.fieldLink RX11 63 "LeftArguments" "acts" "LLeftArguments$Acts;") (List.mem_cons_of_mem _ (List.mem_append_left _ (List.mem_append_left _ (List.mem_append_left _ (List.mem_append_left _ (List.mem_append_left _ (List.mem_append_left _ (List.mem_append_left _ (List.mem_of_getElem? (i := 77) rfl)))))))))) (fun _ h9 => h9) rfl dX11_openOffice_31 ?_
  have hPc := hP.sub (ws' := [(h11, .inr (0, [.ref r16, .int v19, .int v20]))]) [11] rfl
  have hDc := hD.sub (ws' := [(h11, .inr (0, [.ref r16, .int v19, .int v20]))]) [11] (by decide) rfl
  have hKc := hK.sub (tys' := []) [] rfl
  have hFc := va_free (wc := [(h11, .inr (0, [.ref r16, .int v19, .int v20]))]) hD hS hA [11] rfl
  refine va_callv (va_runV (As := []) (rest := []) ⟨hx, hb, hml, hown, hts⟩ (k_X0_forget l dC dI h11 r16 v19 v20 ⟨by first | omega | decide, by first | omega | decide⟩ ⟨by first | omega | decide, by first | omega | decide⟩ H.size) (cwV 0 hts g_X11_openOffice_3 rfl rfl rfl (by decide +kernel) ⟨Nat.le_of_ble_eq_true rfl, Nat.le_of_ble_eq_true rfl⟩) ⟨fun a U g mk q => by obtain ⟨q0, q1, qP, qK, qD⟩ := q; exact ⟨q0, q1, qP, va_K.moved (u := U) (U := U.calling g mk a) (Vm.Alike.refl U.vm) qK, qD⟩, va_recv hKc hPc (ci := 0) (q0 := 0) rfl rfl, fun U hU hW => ⟨rfl, by rw [hU], by rw [hU]; exact hPc, va_K.moved hW.alike hKc, hDc.weaken (fun _ _ _ _ => trivial)⟩⟩ rfl rfl hl.1 rfl (lv_room (Nat.le_of_ble_eq_true rfl)) dX11_openOffice_34 ⟨Nat.le_of_ble_eq_true rfl, Nat.le_of_ble_eq_true rfl⟩) hS (fun q _ h => hFc q h) hFc (fun u t H1 locs ht hvm hwra10 hB hz1 hk1 hS => ?_)
  obtain ⟨x11, oa_x11, ob_x11, hP1, hK1, hD1⟩ := hB
  rw [ht] at hP1
  obtain ⟨hP, hD⟩ := va_join (wr := [(h0, .inr (11, [.ref h1, .ref h5, .ref r0, .ref r1, .ref h2, .ref h9, .ref r2, .ref h11, .ref r3, .ref h8, .ref r4, .ref r5, .ref r6, .ref r7, .int v0, .int v1, .long w2])), (h1, .inr (10, [.ref r8, .int x2, .int v4, .int v5, .int v6])), (h2, .inr (5, [.ref h3, .ref h4, .int x4, .int x5])), (h3, .inl (g0, 4, .inl fn6)), (h4, .inl (g1, 40, .inl fn7)), (h5, .inr (6, [.ref h1, .ref h6, .ref h7, .int v11, .int v12])), (h6, .inl (g2, 4, .inl f13)), (h7, .inl (g3, 40, .inl f14)), (h8, .inr (9, [.ref r1, .ref h2, .ref r9, .ref r10, .ref r11, .ref r12, .ref r13, .ref r14, .int v15])), (h9, .inr (7, [.ref h10, .ref r15, .int v16, .int v17])), (h10, .inl (g4, 58, .inl fn9))]) (w1 := [(h11, .inr (0, [.ref r16, .int v19, .int x11]))]) hP hD [11] [0, 1, 2, 3, 4, 5, 6, 7, 8, 9, 10] rfl rfl (by decide) (by decide) hk1 hFc hP1 hD1
  generalize H1 = H at hP hS ⊢
  have hP : va_P (dC, dI) vwCl [(h0, .inr (11, [.ref h1, .ref h5, .ref r0, .ref r1, .ref h2, .ref h9, .ref r2, .ref h11, .ref r3, .ref h8, .ref r4, .ref r5, .ref r6, .ref r7, .int v0, .int v1, .long w2])), (h1, .inr (10, [.ref r8, .int x2, .int v4, .int v5, .int v6])), (h2, .inr (5, [.ref h3, .ref h4, .int x4, .int x5])), (h3, .inl (g0, 4, .inl fn6)), (h4, .inl (g1, 40, .inl fn7)), (h5, .inr (6, [.ref h1, .ref h6, .ref h7, .int v11, .int v12])), (h6, .inl (g2, 4, .inl f13)), (h7, .inl (g3, 40, .inl f14)), (h8, .inr (9, [.ref r1, .ref h2, .ref r9, .ref r10, .ref r11, .ref r12, .ref r13, .ref r14, .int v15])), (h9, .inr (7, [.ref h10, .ref r15, .int v16, .int v17])), (h10, .inl (g4, 58, .inl fn9)), (h11, .inr (0, [.ref r16, .int v19, .int x11]))] H := hP
  have hD : va_D A [(h0, .inr (11, [.ref h1, .ref h5, .ref r0, .ref r1, .ref h2, .ref h9, .ref r2, .ref h11, .ref r3, .ref h8, .ref r4, .ref r5, .ref r6, .ref r7, .int v0, .int v1, .long w2])), (h1, .inr (10, [.ref r8, .int x2, .int v4, .int v5, .int v6])), (h2, .inr (5, [.ref h3, .ref h4, .int x4, .int x5])), (h3, .inl (g0, 4, .inl fn6)), (h4, .inl (g1, 40, .inl fn7)), (h5, .inr (6, [.ref h1, .ref h6, .ref h7, .int v11, .int v12])), (h6, .inl (g2, 4, .inl f13)), (h7, .inl (g3, 40, .inl f14)), (h8, .inr (9, [.ref r1, .ref h2, .ref r9, .ref r10, .ref r11, .ref r12, .ref r13, .ref r14, .int v15])), (h9, .inr (7, [.ref h10, .ref r15, .int v16, .int v17])), (h10, .inl (g4, 58, .inl fn9)), (h11, .inr (0, [.ref r16, .int v19, .int x11]))] := hD
  refine lv_aload_n hx hb dX11_openOffice_37 rfl (lv_at hl 0 rfl) ?_
  refine va_get (D := (dC, dI)) (ci := 11) (v := .ref h8) (C := RX11) (T := TX11) (N := 17) hx hb hts (fun _ h => List.mem_cons_of_mem _ (List.mem_append_left _ (List.mem_append_left _ (List.mem_append_left _ (List.mem_append_left _ (List.mem_append_left _ (List.mem_append_left _ (List.mem_append_right _ h)))))))) hown hK hP 0 rfl rfl 9 (by decide) (hts (.fieldLink RX11 79 "LeftArguments" "sightings" "LLeftArguments$Sightings;") (List.mem_cons_of_mem _ (List.mem_append_left _ (List.mem_append_left _ (List.mem_append_left _ (List.mem_append_left _ (List.mem_append_left _ (List.mem_append_left _ (List.mem_append_left _ (List.mem_of_getElem? (i := 84) rfl)))))))))) (fun _ h9 => h9) rfl dX11_openOffice_38 ?_
  have hPc := hP.sub (ws' := [(h8, .inr (9, [.ref r1, .ref h2, .ref r9, .ref r10, .ref r11, .ref r12, .ref r13, .ref r14, .int v15]))]) [8] rfl
  have hDc := hD.sub (ws' := [(h8, .inr (9, [.ref r1, .ref h2, .ref r9, .ref r10, .ref r11, .ref r12, .ref r13, .ref r14, .int v15]))]) [8] (by decide) rfl
  have hKc := hK.sub (tys' := []) [] rfl
  have hFc := va_free (wc := [(h8, .inr (9, [.ref r1, .ref h2, .ref r9, .ref r10, .ref r11, .ref r12, .ref r13, .ref r14, .int v15]))]) hD hS hA [8] rfl
  refine va_callv (va_runV (As := []) (rest := []) ⟨hx, hb, hml, hown, hts⟩ (k_X9_forget l dC dI h8 r1 h2 r9 r10 r11 r12 r13 r14 v15 ⟨by first | omega | decide, by first | omega | decide⟩ H.size) (cwV 0 hts g_X11_openOffice_4 rfl rfl rfl (by decide +kernel) ⟨Nat.le_of_ble_eq_true rfl, Nat.le_of_ble_eq_true rfl⟩) ⟨fun a U g mk q => by obtain ⟨q0, q1, qP, qK, qD⟩ := q; exact ⟨q0, q1, qP, va_K.moved (u := U) (U := U.calling g mk a) (Vm.Alike.refl U.vm) qK, qD⟩, va_recv hKc hPc (ci := 9) (q0 := 0) rfl rfl, fun U hU hW => ⟨rfl, by rw [hU], by rw [hU]; exact hPc, va_K.moved hW.alike hKc, hDc.weaken (fun _ _ _ _ => trivial)⟩⟩ rfl rfl hl.1 rfl (lv_room (Nat.le_of_ble_eq_true rfl)) dX11_openOffice_41 ⟨Nat.le_of_ble_eq_true rfl, Nat.le_of_ble_eq_true rfl⟩) hS (fun q _ h => hFc q h) hFc (fun u t H1 locs ht hvm hwra12 hB hz1 hk1 hS => ?_)
  obtain ⟨x13, oa_x13, ob_x13, hP1, hK1, hD1⟩ := hB
  rw [ht] at hP1
  obtain ⟨hP, hD⟩ := va_join (wr := [(h0, .inr (11, [.ref h1, .ref h5, .ref r0, .ref r1, .ref h2, .ref h9, .ref r2, .ref h11, .ref r3, .ref h8, .ref r4, .ref r5, .ref r6, .ref r7, .int v0, .int v1, .long w2])), (h1, .inr (10, [.ref r8, .int x2, .int v4, .int v5, .int v6])), (h2, .inr (5, [.ref h3, .ref h4, .int x4, .int x5])), (h3, .inl (g0, 4, .inl fn6)), (h4, .inl (g1, 40, .inl fn7)), (h5, .inr (6, [.ref h1, .ref h6, .ref h7, .int v11, .int v12])), (h6, .inl (g2, 4, .inl f13)), (h7, .inl (g3, 40, .inl f14)), (h9, .inr (7, [.ref h10, .ref r15, .int v16, .int v17])), (h10, .inl (g4, 58, .inl fn9)), (h11, .inr (0, [.ref r16, .int v19, .int x11]))]) (w1 := [(h8, .inr (9, [.ref r1, .ref h2, .ref r9, .ref r10, .ref r11, .ref r12, .ref r13, .ref r14, .int x13]))]) hP hD [8] [0, 1, 2, 3, 4, 5, 6, 7, 9, 10, 11] rfl rfl (by decide) (by decide) hk1 hFc hP1 hD1
  generalize H1 = H at hP hS ⊢
  have hP := hP.sub (ws' := [(h0, .inr (11, [.ref h1, .ref h5, .ref r0, .ref r1, .ref h2, .ref h9, .ref r2, .ref h11, .ref r3, .ref h8, .ref r4, .ref r5, .ref r6, .ref r7, .int v0, .int v1, .long w2])), (h1, .inr (10, [.ref r8, .int x2, .int v4, .int v5, .int v6])), (h2, .inr (5, [.ref h3, .ref h4, .int x4, .int x5])), (h3, .inl (g0, 4, .inl fn6)), (h4, .inl (g1, 40, .inl fn7)), (h5, .inr (6, [.ref h1, .ref h6, .ref h7, .int v11, .int v12])), (h6, .inl (g2, 4, .inl f13)), (h7, .inl (g3, 40, .inl f14)), (h8, .inr (9, [.ref r1, .ref h2, .ref r9, .ref r10, .ref r11, .ref r12, .ref r13, .ref r14, .int x13])), (h9, .inr (7, [.ref h10, .ref r15, .int v16, .int v17])), (h10, .inl (g4, 58, .inl fn9)), (h11, .inr (0, [.ref r16, .int v19, .int x11]))]) [0, 1, 2, 3, 4, 5, 6, 7, 11, 8, 9, 10] rfl
  have hD := hD.sub (ws' := [(h0, .inr (11, [.ref h1, .ref h5, .ref r0, .ref r1, .ref h2, .ref h9, .ref r2, .ref h11, .ref r3, .ref h8, .ref r4, .ref r5, .ref r6, .ref r7, .int v0, .int v1, .long w2])), (h1, .inr (10, [.ref r8, .int x2, .int v4, .int v5, .int v6])), (h2, .inr (5, [.ref h3, .ref h4, .int x4, .int x5])), (h3, .inl (g0, 4, .inl fn6)), (h4, .inl (g1, 40, .inl fn7)), (h5, .inr (6, [.ref h1, .ref h6, .ref h7, .int v11, .int v12])), (h6, .inl (g2, 4, .inl f13)), (h7, .inl (g3, 40, .inl f14)), (h8, .inr (9, [.ref r1, .ref h2, .ref r9, .ref r10, .ref r11, .ref r12, .ref r13, .ref r14, .int x13])), (h9, .inr (7, [.ref h10, .ref r15, .int v16, .int v17])), (h10, .inl (g4, 58, .inl fn9)), (h11, .inr (0, [.ref r16, .int v19, .int x11]))]) [0, 1, 2, 3, 4, 5, 6, 7, 11, 8, 9, 10] (by decide) rfl
  have hP : va_P (dC, dI) vwCl [(h0, .inr (11, [.ref h1, .ref h5, .ref r0, .ref r1, .ref h2, .ref h9, .ref r2, .ref h11, .ref r3, .ref h8, .ref r4, .ref r5, .ref r6, .ref r7, .int v0, .int v1, .long w2])), (h1, .inr (10, [.ref r8, .int x2, .int v4, .int v5, .int v6])), (h2, .inr (5, [.ref h3, .ref h4, .int x4, .int x5])), (h3, .inl (g0, 4, .inl fn6)), (h4, .inl (g1, 40, .inl fn7)), (h5, .inr (6, [.ref h1, .ref h6, .ref h7, .int v11, .int v12])), (h6, .inl (g2, 4, .inl f13)), (h7, .inl (g3, 40, .inl f14)), (h8, .inr (9, [.ref r1, .ref h2, .ref r9, .ref r10, .ref r11, .ref r12, .ref r13, .ref r14, .int x13])), (h9, .inr (7, [.ref h10, .ref r15, .int v16, .int v17])), (h10, .inl (g4, 58, .inl fn9)), (h11, .inr (0, [.ref r16, .int v19, .int x11]))] H := hP
  have hD : va_D A [(h0, .inr (11, [.ref h1, .ref h5, .ref r0, .ref r1, .ref h2, .ref h9, .ref r2, .ref h11, .ref r3, .ref h8, .ref r4, .ref r5, .ref r6, .ref r7, .int v0, .int v1, .long w2])), (h1, .inr (10, [.ref r8, .int x2, .int v4, .int v5, .int v6])), (h2, .inr (5, [.ref h3, .ref h4, .int x4, .int x5])), (h3, .inl (g0, 4, .inl fn6)), (h4, .inl (g1, 40, .inl fn7)), (h5, .inr (6, [.ref h1, .ref h6, .ref h7, .int v11, .int v12])), (h6, .inl (g2, 4, .inl f13)), (h7, .inl (g3, 40, .inl f14)), (h8, .inr (9, [.ref r1, .ref h2, .ref r9, .ref r10, .ref r11, .ref r12, .ref r13, .ref r14, .int x13])), (h9, .inr (7, [.ref h10, .ref r15, .int v16, .int v17])), (h10, .inl (g4, 58, .inl fn9)), (h11, .inr (0, [.ref r16, .int v19, .int x11]))] := hD
  refine lv_aload_n hx hb dX11_openOffice_44 rfl (lv_at hl 0 rfl) ?_
  refine lv_iconst (v := 0) hx hb dX11_openOffice_45 (by decide) ?_
  refine va_put (D := (dC, dI)) (ci := 11) (v := .int 0) (ty := .boolean) (C := RX11) (T := TX11) (N := 17) hx hb hts (fun _ h => List.mem_cons_of_mem _ (List.mem_append_left _ (List.mem_append_left _ (List.mem_append_left _ (List.mem_append_left _ (List.mem_append_left _ (List.mem_append_left _ (List.mem_append_right _ h)))))))) tyX11 tyX11_ok nmX11 hown hK hP hD hS 0 rfl rfl 14 (by decide) (hts (.fieldLink RX11 100 "LeftArguments" "imageKept" "Z") (List.mem_cons_of_mem _ (List.mem_append_left _ (List.mem_append_left _ (List.mem_append_left _ (List.mem_append_left _ (List.mem_append_left _ (List.mem_append_left _ (List.mem_append_left _ (List.mem_of_getElem? (i := 91) rfl)))))))))) (fun _ h9 => h9) rfl (by decide +kernel) rfl rfl (Nat.le_of_ble_eq_true rfl) dX11_openOffice_46 (fun H locs hP hD hS => ?_)
  have hP : va_P (dC, dI) vwCl [(h0, .inr (11, [.ref h1, .ref h5, .ref r0, .ref r1, .ref h2, .ref h9, .ref r2, .ref h11, .ref r3, .ref h8, .ref r4, .ref r5, .ref r6, .ref r7, .int 0, .int v1, .long w2])), (h1, .inr (10, [.ref r8, .int x2, .int v4, .int v5, .int v6])), (h2, .inr (5, [.ref h3, .ref h4, .int x4, .int x5])), (h3, .inl (g0, 4, .inl fn6)), (h4, .inl (g1, 40, .inl fn7)), (h5, .inr (6, [.ref h1, .ref h6, .ref h7, .int v11, .int v12])), (h6, .inl (g2, 4, .inl f13)), (h7, .inl (g3, 40, .inl f14)), (h8, .inr (9, [.ref r1, .ref h2, .ref r9, .ref r10, .ref r11, .ref r12, .ref r13, .ref r14, .int x13])), (h9, .inr (7, [.ref h10, .ref r15, .int v16, .int v17])), (h10, .inl (g4, 58, .inl fn9)), (h11, .inr (0, [.ref r16, .int v19, .int x11]))] H := hP
  have hD : va_D A [(h0, .inr (11, [.ref h1, .ref h5, .ref r0, .ref r1, .ref h2, .ref h9, .ref r2, .ref h11, .ref r3, .ref h8, .ref r4, .ref r5, .ref r6, .ref r7, .int 0, .int v1, .long w2])), (h1, .inr (10, [.ref r8, .int x2, .int v4, .int v5, .int v6])), (h2, .inr (5, [.ref h3, .ref h4, .int x4, .int x5])), (h3, .inl (g0, 4, .inl fn6)), (h4, .inl (g1, 40, .inl fn7)), (h5, .inr (6, [.ref h1, .ref h6, .ref h7, .int v11, .int v12])), (h6, .inl (g2, 4, .inl f13)), (h7, .inl (g3, 40, .inl f14)), (h8, .inr (9, [.ref r1, .ref h2, .ref r9, .ref r10, .ref r11, .ref r12, .ref r13, .ref r14, .int x13])), (h9, .inr (7, [.ref h10, .ref r15, .int v16, .int v17])), (h10, .inl (g4, 58, .inl fn9)), (h11, .inr (0, [.ref r16, .int v19, .int x11]))] := hD
  refine lv_aload_n hx hb dX11_openOffice_49 rfl (lv_at hl 0 rfl) ?_
  refine va_get (D := (dC, dI)) (ci := 11) (v := .ref h2) (C := RX11) (T := TX11) (N := 17) hx hb hts (fun _ h => List.mem_cons_of_mem _ (List.mem_append_left _ (List.mem_append_left _ (List.mem_append_left _ (List.mem_append_left _ (List.mem_append_left _ (List.mem_append_left _ (List.mem_append_right _ h)))))))) hown hK hP 0 rfl rfl 4 (by decide) (hts (.fieldLink RX11 42 "LeftArguments" "office" "LLeftArguments$Office;") (List.mem_cons_of_mem _ (List.mem_append_left _ (List.mem_append_left _ (List.mem_append_left _ (List.mem_append_left _ (List.mem_append_left _ (List.mem_append_left _ (List.mem_append_left _ (List.mem_of_getElem? (i := 14) rfl)))))))))) (fun _ h9 => h9) rfl dX11_openOffice_50 ?_
  have hPc := hP.sub (ws' := [(h2, .inr (5, [.ref h3, .ref h4, .int x4, .int x5]))]) [2] rfl
  have hDc := hD.sub (ws' := [(h2, .inr (5, [.ref h3, .ref h4, .int x4, .int x5]))]) [2] (by decide) rfl
  have hKc := hK.sub (tys' := []) [] rfl
  have hFc := va_free (wc := [(h2, .inr (5, [.ref h3, .ref h4, .int x4, .int x5]))]) hD hS hA [2] rfl
  refine va_calli (va_runV (As := []) (rest := []) ⟨hx, hb, hml, hown, hts⟩ (k_X5_toldCount l dC dI h2 h3 h4 x4 x5 ⟨by first | omega | decide, by first | omega | decide⟩ H.size) (cwV 0 hts g_X11_openOffice_5 rfl rfl rfl (by decide +kernel) ⟨Nat.le_of_ble_eq_true rfl, Nat.le_of_ble_eq_true rfl⟩) ⟨fun a U g mk q => by obtain ⟨q0, q1, qP, qK, qD⟩ := q; exact ⟨q0, q1, qP, va_K.moved (u := U) (U := U.calling g mk a) (Vm.Alike.refl U.vm) qK, qD⟩, va_recv hKc hPc (ci := 5) (q0 := 0) rfl rfl, fun U hU hW => ⟨rfl, by rw [hU], by rw [hU]; exact hPc, va_K.moved hW.alike hKc, hDc.weaken (fun _ _ _ _ => trivial)⟩⟩ rfl rfl hl.1 rfl (lv_room (Nat.le_of_ble_eq_true rfl)) dX11_openOffice_53 ⟨Nat.le_of_ble_eq_true rfl, Nat.le_of_ble_eq_true rfl⟩) hS (fun q _ h => hFc q h) hFc (fun ra14 u t H1 locs ht hvm hwra14 hB hz1 hk1 hS => ?_)
  obtain ⟨hP1, hK1, hD1⟩ := hB
  rw [ht] at hP1
  obtain ⟨hP, hD⟩ := va_join (wr := [(h0, .inr (11, [.ref h1, .ref h5, .ref r0, .ref r1, .ref h2, .ref h9, .ref r2, .ref h11, .ref r3, .ref h8, .ref r4, .ref r5, .ref r6, .ref r7, .int 0, .int v1, .long w2])), (h1, .inr (10, [.ref r8, .int x2, .int v4, .int v5, .int v6])), (h3, .inl (g0, 4, .inl fn6)), (h4, .inl (g1, 40, .inl fn7)), (h5, .inr (6, [.ref h1, .ref h6, .ref h7, .int v11, .int v12])), (h6, .inl (g2, 4, .inl f13)), (h7, .inl (g3, 40, .inl f14)), (h8, .inr (9, [.ref r1, .ref h2, .ref r9, .ref r10, .ref r11, .ref r12, .ref r13, .ref r14, .int x13])), (h9, .inr (7, [.ref h10, .ref r15, .int v16, .int v17])), (h10, .inl (g4, 58, .inl fn9)), (h11, .inr (0, [.ref r16, .int v19, .int x11]))]) (w1 := [(h2, .inr (5, [.ref h3, .ref h4, .int x4, .int x5]))]) hP hD [2] [0, 1, 3, 4, 5, 6, 7, 8, 9, 10, 11] rfl rfl (by decide) (by decide) hk1 hFc hP1 hD1
  generalize H1 = H at hP hS ⊢
  have hP := hP.sub (ws' := [(h0, .inr (11, [.ref h1, .ref h5, .ref r0, .ref r1, .ref h2, .ref h9, .ref r2, .ref h11, .ref r3, .ref h8, .ref r4, .ref r5, .ref r6, .ref r7, .int 0, .int v1, .long w2])), (h1, .inr (10, [.ref r8, .int x2, .int v4, .int v5, .int v6])), (h2, .inr (5, [.ref h3, .ref h4, .int x4, .int x5])), (h3, .inl (g0, 4, .inl fn6)), (h4, .inl (g1, 40, .inl fn7)), (h5, .inr (6, [.ref h1, .ref h6, .ref h7, .int v11, .int v12])), (h6, .inl (g2, 4, .inl f13)), (h7, .inl (g3, 40, .inl f14)), (h8, .inr (9, [.ref r1, .ref h2, .ref r9, .ref r10, .ref r11, .ref r12, .ref r13, .ref r14, .int x13])), (h9, .inr (7, [.ref h10, .ref r15, .int v16, .int v17])), (h10, .inl (g4, 58, .inl fn9)), (h11, .inr (0, [.ref r16, .int v19, .int x11]))]) [0, 1, 11, 2, 3, 4, 5, 6, 7, 8, 9, 10] rfl
  have hD := hD.sub (ws' := [(h0, .inr (11, [.ref h1, .ref h5, .ref r0, .ref r1, .ref h2, .ref h9, .ref r2, .ref h11, .ref r3, .ref h8, .ref r4, .ref r5, .ref r6, .ref r7, .int 0, .int v1, .long w2])), (h1, .inr (10, [.ref r8, .int x2, .int v4, .int v5, .int v6])), (h2, .inr (5, [.ref h3, .ref h4, .int x4, .int x5])), (h3, .inl (g0, 4, .inl fn6)), (h4, .inl (g1, 40, .inl fn7)), (h5, .inr (6, [.ref h1, .ref h6, .ref h7, .int v11, .int v12])), (h6, .inl (g2, 4, .inl f13)), (h7, .inl (g3, 40, .inl f14)), (h8, .inr (9, [.ref r1, .ref h2, .ref r9, .ref r10, .ref r11, .ref r12, .ref r13, .ref r14, .int x13])), (h9, .inr (7, [.ref h10, .ref r15, .int v16, .int v17])), (h10, .inl (g4, 58, .inl fn9)), (h11, .inr (0, [.ref r16, .int v19, .int x11]))]) [0, 1, 11, 2, 3, 4, 5, 6, 7, 8, 9, 10] (by decide) rfl
  have hP : va_P (dC, dI) vwCl [(h0, .inr (11, [.ref h1, .ref h5, .ref r0, .ref r1, .ref h2, .ref h9, .ref r2, .ref h11, .ref r3, .ref h8, .ref r4, .ref r5, .ref r6, .ref r7, .int 0, .int v1, .long w2])), (h1, .inr (10, [.ref r8, .int x2, .int v4, .int v5, .int v6])), (h2, .inr (5, [.ref h3, .ref h4, .int x4, .int x5])), (h3, .inl (g0, 4, .inl fn6)), (h4, .inl (g1, 40, .inl fn7)), (h5, .inr (6, [.ref h1, .ref h6, .ref h7, .int v11, .int v12])), (h6, .inl (g2, 4, .inl f13)), (h7, .inl (g3, 40, .inl f14)), (h8, .inr (9, [.ref r1, .ref h2, .ref r9, .ref r10, .ref r11, .ref r12, .ref r13, .ref r14, .int x13])), (h9, .inr (7, [.ref h10, .ref r15, .int v16, .int v17])), (h10, .inl (g4, 58, .inl fn9)), (h11, .inr (0, [.ref r16, .int v19, .int x11]))] H := hP
  have hD : va_D A [(h0, .inr (11, [.ref h1, .ref h5, .ref r0, .ref r1, .ref h2, .ref h9, .ref r2, .ref h11, .ref r3, .ref h8, .ref r4, .ref r5, .ref r6, .ref r7, .int 0, .int v1, .long w2])), (h1, .inr (10, [.ref r8, .int x2, .int v4, .int v5, .int v6])), (h2, .inr (5, [.ref h3, .ref h4, .int x4, .int x5])), (h3, .inl (g0, 4, .inl fn6)), (h4, .inl (g1, 40, .inl fn7)), (h5, .inr (6, [.ref h1, .ref h6, .ref h7, .int v11, .int v12])), (h6, .inl (g2, 4, .inl f13)), (h7, .inl (g3, 40, .inl f14)), (h8, .inr (9, [.ref r1, .ref h2, .ref r9, .ref r10, .ref r11, .ref r12, .ref r13, .ref r14, .int x13])), (h9, .inr (7, [.ref h10, .ref r15, .int v16, .int v17])), (h10, .inl (g4, 58, .inl fn9)), (h11, .inr (0, [.ref r16, .int v19, .int x11]))] := hD
  subst hQ
  have hP9 := hP.sub (ws' := [(h0, .inr (11, [.ref h1, .ref h5, .ref r0, .ref r1, .ref h2, .ref h9, .ref r2, .ref h11, .ref r3, .ref h8, .ref r4, .ref r5, .ref r6, .ref r7, .int 0, .int v1, .long w2])), (h1, .inr (10, [.ref r8, .int x2, .int v4, .int v5, .int v6])), (h2, .inr (5, [.ref h3, .ref h4, .int x4, .int x5])), (h3, .inl (g0, 4, .inl fn6)), (h4, .inl (g1, 40, .inl fn7)), (h5, .inr (6, [.ref h1, .ref h6, .ref h7, .int v11, .int v12])), (h6, .inl (g2, 4, .inl f13)), (h7, .inl (g3, 40, .inl f14)), (h8, .inr (9, [.ref r1, .ref h2, .ref r9, .ref r10, .ref r11, .ref r12, .ref r13, .ref r14, .int x13])), (h9, .inr (7, [.ref h10, .ref r15, .int v16, .int v17])), (h10, .inl (g4, 58, .inl fn9)), (h11, .inr (0, [.ref r16, .int v19, .int x11]))]) [0, 1, 2, 3, 4, 5, 6, 7, 8, 9, 10, 11] rfl
  have hD9 := hD.sub (ws' := [(h0, .inr (11, [.ref h1, .ref h5, .ref r0, .ref r1, .ref h2, .ref h9, .ref r2, .ref h11, .ref r3, .ref h8, .ref r4, .ref r5, .ref r6, .ref r7, .int 0, .int v1, .long w2])), (h1, .inr (10, [.ref r8, .int x2, .int v4, .int v5, .int v6])), (h2, .inr (5, [.ref h3, .ref h4, .int x4, .int x5])), (h3, .inl (g0, 4, .inl fn6)), (h4, .inl (g1, 40, .inl fn7)), (h5, .inr (6, [.ref h1, .ref h6, .ref h7, .int v11, .int v12])), (h6, .inl (g2, 4, .inl f13)), (h7, .inl (g3, 40, .inl f14)), (h8, .inr (9, [.ref r1, .ref h2, .ref r9, .ref r10, .ref r11, .ref r12, .ref r13, .ref r14, .int x13])), (h9, .inr (7, [.ref h10, .ref r15, .int v16, .int v17])), (h10, .inl (g4, 58, .inl fn9)), (h11, .inr (0, [.ref r16, .int v19, .int x11]))]) [0, 1, 2, 3, 4, 5, 6, 7, 8, 9, 10, 11] (by decide) rfl
  have hK9 := hK.sub (tys' := []) [] rfl
  exact W.iret (v := ra14) hx hb hr (fun t ht hW => ⟨⟨ra14, (), rfl, trivial, 0, x2, x4, x5, fn6, fn7, x13, fn9, x11, by first | omega | decide, by first | omega | decide, by first | omega | decide, by first | omega | decide, by first | omega | decide, by first | omega | decide, by first | omega | decide, by first | omega | decide, by first | omega | decide, by first | omega | decide, by rw [ht]; exact hP9, va_K.moved hW.alike hK9, hD9⟩, hS.F ht⟩) hS.2.2 dX11_openOffice_56
def q_X11_roomLeft : List Cond := .code yX11_roomLeft cX11_roomLeft 3 (some .int) :: (([.fieldLink RX11 42 "LeftArguments" "office" "LLeftArguments$Office;", .code yX5_ruleOf cX5_ruleOf 2 (some .int), .fieldLink RX5 11 "LeftArguments$Office" "rules" "[I", .initialized RX5, .instanceMethod yX5_ruleOf, .selects RX5 yX5_ruleOf yX5_ruleOf, .methodLink RX11 166 yX5_ruleOf, .fieldLink RX11 49 "LeftArguments" "room" "LLeftArguments$Room;", .code yX7_loadOn cX7_loadOn 4 (some .int), .fieldLink RX7 11 "LeftArguments$Room" "cells" "[I", .initialized RX7, .instanceMethod yX7_loadOn, .selects RX7 yX7_loadOn yX7_loadOn, .methodLink RX11 186 yX7_loadOn, .methodLink RX11 369 Lib.Math.max.name, .static Lib.Math.max.name, .initialized "java/lang/Math", .code Lib.Math.max.name Lib.Math.max.code 2 (some .int)] : List Cond) ++ wsX110 ++ wsX50 ++ wsX70)
set_option maxRecDepth 20000 in
theorem g_X11_roomLeft_0 : GoodIn q_X11_roomLeft (wsV RX11 166 RX5 yX5_ruleOf q_X5_ruleOf) := goodIn_app (goodIn_r _ [7, 5, 6, 4] (by decide +kernel) (by decide +kernel)) (goodIn_ca (goodIn_r (.code yX5_ruleOf cX5_ruleOf 2 (some .int) :: [.fieldLink RX5 11 "LeftArguments$Office" "rules" "[I"]) [2, 3] (by decide +kernel) (by decide +kernel)) (goodIn_sub (fun _ h => List.mem_cons_of_mem _ (List.mem_append_left _ (List.mem_append_right _ h))) gwX5))
set_option maxRecDepth 20000 in
theorem g_X11_roomLeft_1 : GoodIn q_X11_roomLeft (wsV RX11 166 RX5 yX5_ruleOf q_X5_ruleOf) := goodIn_app (goodIn_r _ [7, 5, 6, 4] (by decide +kernel) (by decide +kernel)) (goodIn_ca (goodIn_r (.code yX5_ruleOf cX5_ruleOf 2 (some .int) :: [.fieldLink RX5 11 "LeftArguments$Office" "rules" "[I"]) [2, 3] (by decide +kernel) (by decide +kernel)) (goodIn_sub (fun _ h => List.mem_cons_of_mem _ (List.mem_append_left _ (List.mem_append_right _ h))) gwX5))
set_option maxRecDepth 20000 in
theorem g_X11_roomLeft_2 : GoodIn q_X11_roomLeft (wsV RX11 186 RX7 yX7_loadOn q_X7_loadOn) := goodIn_app (goodIn_r _ [14, 12, 13, 11] (by decide +kernel) (by decide +kernel)) (goodIn_ca (goodIn_r (.code yX7_loadOn cX7_loadOn 4 (some .int) :: [.fieldLink RX7 11 "LeftArguments$Room" "cells" "[I"]) [9, 10] (by decide +kernel) (by decide +kernel)) (goodIn_sub (fun _ h => List.mem_cons_of_mem _ (List.mem_append_right _ h)) gwX7))
set_option maxHeartbeats 4000000 in
set_option maxRecDepth 100000 in
theorem k_X11_roomLeft (l : Launch) (dC : Nat → ClassId) (dI : Nat → Nat → Nat) (h0 : Nat) (h1 : Nat) (h2 : Nat) (h3 : Nat) (h4 : Nat) (r0 : Nat) (r1 : Nat) (r2 : Nat) (r3 : Nat) (r4 : Nat) (r5 : Nat) (r6 : Nat) (r7 : Nat) (r8 : Nat) (r9 : Nat) (r10 : Nat) (r11 : Nat) (v0 : Int32) (v1 : Int32) (w2 : Int64) (r12 : Nat) (v3 : Int32) (v4 : Int32) (g0 : ClassId) (f5 : Nat → Int32) (r13 : Nat) (v6 : Int32) (v7 : Int32) (g1 : ClassId) (f8 : Nat → Int32) (i_v0 : 0 ≤ v0.toInt ∧ v0.toInt ≤ 1) (i_v4 : 0 ≤ v4.toInt ∧ v4.toInt ≤ 1) (sz : Nat) : Met l yX11_roomLeft q_X11_roomLeft ({ frames := 1, cells := 0, slots := 0, locals := 23 }) (va_Pc [.ref h0] (fun U => U.heap.size = sz ∧ va_P (dC, dI) vwCl [(h0, .inr (11, [.ref r0, .ref r1, .ref r2, .ref r3, .ref h1, .ref h3, .ref r4, .ref r5, .ref r6, .ref r7, .ref r8, .ref r9, .ref r10, .ref r11, .int v0, .int v1, .long w2])), (h1, .inr (5, [.ref h2, .ref r12, .int v3, .int v4])), (h2, .inl (g0, 4, .inl f5)), (h3, .inr (7, [.ref h4, .ref r13, .int v6, .int v7])), (h4, .inl (g1, 58, .inl f8))] U.heap ∧ va_K (dC, dI) vwCl [(g0, .int), (g1, .int)] U ∧ va_D (fun _ => True) [(h0, .inr (11, [.ref r0, .ref r1, .ref r2, .ref r3, .ref h1, .ref h3, .ref r4, .ref r5, .ref r6, .ref r7, .ref r8, .ref r9, .ref r10, .ref r11, .int v0, .int v1, .long w2])), (h1, .inr (5, [.ref h2, .ref r12, .int v3, .int v4])), (h2, .inl (g0, 4, .inl f5)), (h3, .inr (7, [.ref h4, .ref r13, .int v6, .int v7])), (h4, .inl (g1, 58, .inl f8))])) (va_Qi (fun (r : Int32) (_ : Unit) => True) (fun (_ : Unit) (t : State) => va_P (dC, dI) vwCl [(h0, .inr (11, [.ref r0, .ref r1, .ref r2, .ref r3, .ref h1, .ref h3, .ref r4, .ref r5, .ref r6, .ref r7, .ref r8, .ref r9, .ref r10, .ref r11, .int v0, .int v1, .long w2])), (h1, .inr (5, [.ref h2, .ref r12, .int v3, .int v4])), (h2, .inl (g0, 4, .inl f5)), (h3, .inr (7, [.ref h4, .ref r13, .int v6, .int v7])), (h4, .inl (g1, 58, .inl f8))] t.heap ∧ va_K (dC, dI) vwCl [] t ∧ va_D (va_A [(h0, .inr (11, [.ref r0, .ref r1, .ref r2, .ref r3, .ref h1, .ref h3, .ref r4, .ref r5, .ref r6, .ref r7, .ref r8, .ref r9, .ref r10, .ref r11, .int v0, .int v1, .long w2])), (h1, .inr (5, [.ref h2, .ref r12, .int v3, .int v4])), (h2, .inl (g0, 4, .inl f5)), (h3, .inr (7, [.ref h4, .ref r13, .int v6, .int v7])), (h4, .inl (g1, 58, .inl f8))] sz) [(h0, .inr (11, [.ref r0, .ref r1, .ref r2, .ref r3, .ref h1, .ref h3, .ref r4, .ref r5, .ref r6, .ref r7, .ref r8, .ref r9, .ref r10, .ref r11, .int v0, .int v1, .long w2])), (h1, .inr (5, [.ref h2, .ref r12, .int v3, .int v4])), (h2, .inl (g0, 4, .inl f5)), (h3, .inr (7, [.ref h4, .ref r13, .int v6, .int v7])), (h4, .inl (g1, 58, .inl f8))]) (va_A [(h0, .inr (11, [.ref r0, .ref r1, .ref r2, .ref r3, .ref h1, .ref h3, .ref r4, .ref r5, .ref r6, .ref r7, .ref r8, .ref r9, .ref r10, .ref r11, .int v0, .int v1, .long w2])), (h1, .inr (5, [.ref h2, .ref r12, .int v3, .int v4])), (h2, .inl (g0, 4, .inl f5)), (h3, .inr (7, [.ref h4, .ref r13, .int v6, .int v7])), (h4, .inl (g1, 58, .inl f8))] sz)) 0 0 (va_A [(h0, .inr (11, [.ref r0, .ref r1, .ref r2, .ref r3, .ref h1, .ref h3, .ref r4, .ref r5, .ref r6, .ref r7, .ref r8, .ref r9, .ref r10, .ref r11, .int v0, .int v1, .long w2])), (h1, .inr (5, [.ref h2, .ref r12, .int v3, .int v4])), (h2, .inl (g0, 4, .inl f5)), (h3, .inr (7, [.ref h4, .ref r13, .int v6, .int v7])), (h4, .inl (g1, 58, .inl f8))] sz) := by
  refine Met.ofW (cc := cX11_roomLeft) (maxL := 3) (ret := (some .int)) (by decide) rfl ?_
  intro p e s m args below meth c s₁ B hml hv
  obtain ⟨i_v0a, i_v0b⟩ := i_v0
  obtain ⟨i_v4a, i_v4b⟩ := i_v4
  obtain ⟨rfl, hsz, hP, hK, hD0⟩ := hv
  have hx := B.exec
  have hb := B.bytes
  have hr := B.returns
  have hts := atoms_spec (ws := q_X11_roomLeft) B.pre
  have hown : s.vm.findClass RX11 = some m.cls := findClass_of_methodNamed B.named
  have hlocks := B.notSynchronized
  subst hsz
  have hD := hD0.self (sz := s.heap.size)
  generalize hAe : va_A [(h0, .inr (11, [.ref r0, .ref r1, .ref r2, .ref r3, .ref h1, .ref h3, .ref r4, .ref r5, .ref r6, .ref r7, .ref r8, .ref r9, .ref r10, .ref r11, .int v0, .int v1, .long w2])), (h1, .inr (5, [.ref h2, .ref r12, .int v3, .int v4])), (h2, .inl (g0, 4, .inl f5)), (h3, .inr (7, [.ref h4, .ref r13, .int v6, .int v7])), (h4, .inl (g1, 58, .inl f8))] s.heap.size = A at hD ⊢
  have hA : ∀ q : Nat, s.heap.size ≤ q → A q := fun q h => by rw [← hAe]; exact Or.inr h
  have hS : va_S A s.heap s.heap [] := va_S.rf
  generalize hQ : (MQ below _ _ s 0 0 A) = Q
  have hl := lv_entry ([.ref h0]) (n := 3) (Nat.le_of_ble_eq_true rfl)
  rw [lg_entry_eq]
  generalize (lg_sl ([.ref h0]) ++ List.replicate (3 - (lg_sl ([.ref h0])).length) Slot.unset).toArray = ls at hl ⊢
  have hl : lv_has ls 3 [(0, .ref h0)] := hl
  obtain ⟨H, hH⟩ : ∃ H : Heap, H = s.heap := ⟨_, rfl⟩
  obtain ⟨locs, hlocs⟩ : ∃ y : List Loc, y = [] := ⟨_, rfl⟩
  have hS : va_S A s.heap H locs := by rw [hH, hlocs]; exact va_S.rf
  have hP : va_P (dC, dI) vwCl [(h0, .inr (11, [.ref r0, .ref r1, .ref r2, .ref r3, .ref h1, .ref h3, .ref r4, .ref r5, .ref r6, .ref r7, .ref r8, .ref r9, .ref r10, .ref r11, .int v0, .int v1, .long w2])), (h1, .inr (5, [.ref h2, .ref r12, .int v3, .int v4])), (h2, .inl (g0, 4, .inl f5)), (h3, .inr (7, [.ref h4, .ref r13, .int v6, .int v7])), (h4, .inl (g1, 58, .inl f8))] H := by rw [hH]; exact hP
  rw [← hH, ← hlocs]
  refine lv_iconst (v := 0) hx hb dX11_roomLeft_0 (by decide) ?_
  refine lv_istore_n (lv' := [(1, .int 0), (0, .ref h0)]) hx hb dX11_roomLeft_1 rfl hl (by decide) rfl (fun ls hl => ?_)
  refine lv_iconst (v := 0) hx hb dX11_roomLeft_2 (by decide) ?_
  refine lv_istore_n (lv' := [(2, .int 0), (1, .int 0), (0, .ref h0)]) hx hb dX11_roomLeft_3 rfl hl (by decide) rfl (fun ls hl => ?_)
  have hL21 : ∀ (n9 : Nat), ∀ (x17 : Int32) (x18 : Int32) (H : Heap) (locs : List Loc) (ls : Array Slot), 0 ≤ x17.toInt → (2147483647 - x17.toInt).toNat < n9 → va_P (dC, dI) vwCl [(h0, .inr (11, [.ref r0, .ref r1, .ref r2, .ref r3, .ref h1, .ref h3, .ref r4, .ref r5, .ref r6, .ref r7, .ref r8, .ref r9, .ref r10, .ref r11, .int v0, .int v1, .long w2])), (h1, .inr (5, [.ref h2, .ref r12, .int v3, .int v4])), (h2, .inl (g0, 4, .inl f5)), (h3, .inr (7, [.ref h4, .ref r13, .int v6, .int v7])), (h4, .inl (g1, 58, .inl f8))] H → va_D A [(h0, .inr (11, [.ref r0, .ref r1, .ref r2, .ref r3, .ref h1, .ref h3, .ref r4, .ref r5, .ref r6, .ref r7, .ref r8, .ref r9, .ref r10, .ref r11, .int v0, .int v1, .long w2])), (h1, .inr (5, [.ref h2, .ref r12, .int v3, .int v4])), (h2, .inl (g0, 4, .inl f5)), (h3, .inr (7, [.ref h4, .ref r13, .int v6, .int v7])), (h4, .inl (g1, 58, .inl f8))] → va_S A s.heap H locs → lv_has ls 3 [(2, .int x17), (1, .int x18), (0, .ref h0)] → W p l e ({ frames := 1, cells := 0, slots := 0, locals := 23 }) s m ([.ref h0] : List Value).toArray below meth c H locs 0 0 Q (F0 m 4 ls []) := by
    intro n9
    induction n9 with
    | zero => intro x17 x18 H locs ls qa_x17 hm9 hP hD hS hl; exact absurd hm9 (Nat.not_lt_zero _)
    | succ n9 ih =>
      intro x17 x18 H locs ls qa_x17 hm9 hP hD hS hl
      refine lv_iload_n hx hb dX11_roomLeft_4 rfl (lv_at hl 0 rfl) ?_
      refine lv_aload_n hx hb dX11_roomLeft_5 rfl (lv_at hl 2 rfl) ?_
      refine va_get (D := (dC, dI)) (ci := 11) (v := .ref h1) (C := RX11) (T := TX11) (N := 17) hx hb hts (fun _ h => List.mem_cons_of_mem _ (List.mem_append_left _ (List.mem_append_left _ (List.mem_append_right _ h)))) hown hK hP 0 rfl rfl 4 (by decide) (hts (.fieldLink RX11 42 "LeftArguments" "office" "LLeftArguments$Office;") (List.mem_cons_of_mem _ (List.mem_append_left _ (List.mem_append_left _ (List.mem_append_left _ (List.mem_of_getElem? (i := 0) rfl)))))) (fun _ h9 => h9) rfl dX11_roomLeft_6 ?_
      refine lv_iconst (v := 1) hx hb dX11_roomLeft_9 (by decide) ?_
      have hPc := hP.sub (ws' := [(h1, .inr (5, [.ref h2, .ref r12, .int v3, .int v4])), (h2, .inl (g0, 4, .inl f5))]) [1, 2] rfl
      have hDc := hD.sub (ws' := [(h1, .inr (5, [.ref h2, .ref r12, .int v3, .int v4])), (h2, .inl (g0, 4, .inl f5))]) [1, 2] (by decide) rfl
      have hKc := hK.sub (tys' := [(g0, .int)]) [0] rfl
      have hFc := va_free (wc := [(h1, .inr (5, [.ref h2, .ref r12, .int v3, .int v4])), (h2, .inl (g0, 4, .inl f5))]) hD hS hA [1, 2] rfl
      refine va_calli (va_runV (As := [.int 1]) (rest := [.int x17]) ⟨hx, hb, hml, hown, hts⟩ (k_X5_ruleOf l dC dI h1 h2 r12 v3 v4 g0 f5 1 ⟨by first | omega | decide, by first | omega | decide⟩ H.size) (cwV 1 hts g_X11_roomLeft_0 rfl rfl rfl (by decide +kernel) ⟨Nat.le_of_ble_eq_true rfl, Nat.le_of_ble_eq_true rfl⟩) ⟨fun a U g mk q => by obtain ⟨q0, q1, qP, qK, qD⟩ := q; exact ⟨q0, q1, qP, va_K.moved (u := U) (U := U.calling g mk a) (Vm.Alike.refl U.vm) qK, qD⟩, va_recv hKc hPc (ci := 5) (q0 := 0) rfl rfl, fun U hU hW => ⟨rfl, by rw [hU], by rw [hU]; exact hPc, va_K.moved hW.alike hKc, hDc.weaken (fun _ _ _ _ => trivial)⟩⟩ rfl rfl hl.1 rfl (lv_room (Nat.le_of_ble_eq_true rfl)) dX11_roomLeft_10 ⟨Nat.le_of_ble_eq_true rfl, Nat.le_of_ble_eq_true rfl⟩) hS (fun q _ h => hFc q h) hFc (fun ra22 u t H1 locs ht hvm hwra22 hB hz1 hk1 hS => ?_)
      obtain ⟨hP1, hK1, hD1⟩ := hB
      rw [ht] at hP1
      obtain ⟨hP, hD⟩ := va_join (wr := [(h0, .inr (11, [.ref r0, .ref r1, .ref r2, .ref r3, .ref h1, .ref h3, .ref r4, .ref r5, .ref r6, .ref r7, .ref r8, .ref r9, .ref r10, .ref r11, .int v0, .int v1, .long w2])), (h3, .inr (7, [.ref h4, .ref r13, .int v6, .int v7])), (h4, .inl (g1, 58, .inl f8))]) (w1 := [(h1, .inr (5, [.ref h2, .ref r12, .int v3, .int v4])), (h2, .inl (g0, 4, .inl f5))]) hP hD [1, 2] [0, 3, 4] rfl rfl (by decide) (by decide) hk1 hFc hP1 hD1
      generalize H1 = H at hP hS ⊢
      have hP := hP.sub (ws' := [(h0, .inr (11, [.ref r0, .ref r1, .ref r2, .ref r3, .ref h1, .ref h3, .ref r4, .ref r5, .ref r6, .ref r7, .ref r8, .ref r9, .ref r10, .ref r11, .int v0, .int v1, .long w2])), (h1, .inr (5, [.ref h2, .ref r12, .int v3, .int v4])), (h2, .inl (g0, 4, .inl f5)), (h3, .inr (7, [.ref h4, .ref r13, .int v6, .int v7])), (h4, .inl (g1, 58, .inl f8))]) [0, 3, 4, 1, 2] rfl
      have hD := hD.sub (ws' := [(h0, .inr (11, [.ref r0, .ref r1, .ref r2, .ref r3, .ref h1, .ref h3, .ref r4, .ref r5, .ref r6, .ref r7, .ref r8, .ref r9, .ref r10, .ref r11, .int v0, .int v1, .long w2])), (h1, .inr (5, [.ref h2, .ref r12, .int v3, .int v4])), (h2, .inl (g0, 4, .inl f5)), (h3, .inr (7, [.ref h4, .ref r13, .int v6, .int v7])), (h4, .inl (g1, 58, .inl f8))]) [0, 3, 4, 1, 2] (by decide) rfl
      have hP : va_P (dC, dI) vwCl [(h0, .inr (11, [.ref r0, .ref r1, .ref r2, .ref r3, .ref h1, .ref h3, .ref r4, .ref r5, .ref r6, .ref r7, .ref r8, .ref r9, .ref r10, .ref r11, .int v0, .int v1, .long w2])), (h1, .inr (5, [.ref h2, .ref r12, .int v3, .int v4])), (h2, .inl (g0, 4, .inl f5)), (h3, .inr (7, [.ref h4, .ref r13, .int v6, .int v7])), (h4, .inl (g1, 58, .inl f8))] H := hP
      have hD : va_D A [(h0, .inr (11, [.ref r0, .ref r1, .ref r2, .ref r3, .ref h1, .ref h3, .ref r4, .ref r5, .ref r6, .ref r7, .ref r8, .ref r9, .ref r10, .ref r11, .int v0, .int v1, .long w2])), (h1, .inr (5, [.ref h2, .ref r12, .int v3, .int v4])), (h2, .inl (g0, 4, .inl f5)), (h3, .inr (7, [.ref h4, .ref r13, .int v6, .int v7])), (h4, .inl (g1, 58, .inl f8))] := hD
      refine lv_icmp_ge (tgt := 46) hx hb dX11_roomLeft_13 (by decide) (fun c23 => ?_) (fun c23 => ?_)
      · skip
        have fc23 : ra22.toInt ≤ x17.toInt := Int32.le_iff_toInt_le.mp c23
        have r1c23 := Int32.toInt_lt x17
        have r2c23 := Int32.toInt_lt ra22
        have r3c23 := Int32.le_toInt x17
        have r4c23 := Int32.le_toInt ra22
        refine lv_iload_n hx hb dX11_roomLeft_46 rfl (lv_at hl 1 rfl) ?_
        subst hQ
        have hP9 := hP.sub (ws' := [(h0, .inr (11, [.ref r0, .ref r1, .ref r2, .ref r3, .ref h1, .ref h3, .ref r4, .ref r5, .ref r6, .ref r7, .ref r8, .ref r9, .ref r10, .ref r11, .int v0, .int v1, .long w2])), (h1, .inr (5, [.ref h2, .ref r12, .int v3, .int v4])), (h2, .inl (g0, 4, .inl f5)), (h3, .inr (7, [.ref h4, .ref r13, .int v6, .int v7])), (h4, .inl (g1, 58, .inl f8))]) [0, 1, 2, 3, 4] rfl
        have hD9 := hD.sub (ws' := [(h0, .inr (11, [.ref r0, .ref r1, .ref r2, .ref r3, .ref h1, .ref h3, .ref r4, .ref r5, .ref r6, .ref r7, .ref r8, .ref r9, .ref r10, .ref r11, .int v0, .int v1, .long w2])), (h1, .inr (5, [.ref h2, .ref r12, .int v3, .int v4])), (h2, .inl (g0, 4, .inl f5)), (h3, .inr (7, [.ref h4, .ref r13, .int v6, .int v7])), (h4, .inl (g1, 58, .inl f8))]) [0, 1, 2, 3, 4] (by decide) rfl
        have hK9 := hK.sub (tys' := []) [] rfl
        exact W.iret (v := x18) hx hb hr (fun t ht hW => ⟨⟨x18, (), rfl, trivial, by rw [ht]; exact hP9, va_K.moved hW.alike hK9, hD9⟩, hS.F ht⟩) hS.2.2 dX11_roomLeft_47
      · skip
        have fc23 : ¬ (ra22.toInt ≤ x17.toInt) := fun h9 => c23 (Int32.le_iff_toInt_le.mpr h9)
        have r1c23 := Int32.toInt_lt x17
        have r2c23 := Int32.toInt_lt ra22
        have r3c23 := Int32.le_toInt x17
        have r4c23 := Int32.le_toInt ra22
        refine lv_iload_n hx hb dX11_roomLeft_16 rfl (lv_at hl 1 rfl) ?_
        refine lv_iconst (v := 0) hx hb dX11_roomLeft_17 (by decide) ?_
        refine lv_aload_n hx hb dX11_roomLeft_18 rfl (lv_at hl 2 rfl) ?_
        refine va_get (D := (dC, dI)) (ci := 11) (v := .ref h1) (C := RX11) (T := TX11) (N := 17) hx hb hts (fun _ h => List.mem_cons_of_mem _ (List.mem_append_left _ (List.mem_append_left _ (List.mem_append_right _ h)))) hown hK hP 0 rfl rfl 4 (by decide) (hts (.fieldLink RX11 42 "LeftArguments" "office" "LLeftArguments$Office;") (List.mem_cons_of_mem _ (List.mem_append_left _ (List.mem_append_left _ (List.mem_append_left _ (List.mem_of_getElem? (i := 0) rfl)))))) (fun _ h9 => h9) rfl dX11_roomLeft_19 ?_
        refine lv_iconst (v := 0) hx hb dX11_roomLeft_22 (by decide) ?_
        have hPc := hP.sub (ws' := [(h1, .inr (5, [.ref h2, .ref r12, .int v3, .int v4])), (h2, .inl (g0, 4, .inl f5))]) [1, 2] rfl
        have hDc := hD.sub (ws' := [(h1, .inr (5, [.ref h2, .ref r12, .int v3, .int v4])), (h2, .inl (g0, 4, .inl f5))]) [1, 2] (by decide) rfl
        have hKc := hK.sub (tys' := [(g0, .int)]) [0] rfl
        have hFc := va_free (wc := [(h1, .inr (5, [.ref h2, .ref r12, .int v3, .int v4])), (h2, .inl (g0, 4, .inl f5))]) hD hS hA [1, 2] rfl
        refine va_calli (va_runV (As := [.int 0]) (rest := [.int 0, .int x18]) ⟨hx, hb, hml, hown, hts⟩ (k_X5_ruleOf l dC dI h1 h2 r12 v3 v4 g0 f5 0 ⟨by first | omega | decide, by first | omega | decide⟩ H.size) (cwV 1 hts g_X11_roomLeft_1 rfl rfl rfl (by decide +kernel) ⟨Nat.le_of_ble_eq_true rfl, Nat.le_of_ble_eq_true rfl⟩) ⟨fun a U g mk q => by obtain ⟨q0, q1, qP, qK, qD⟩ := q; exact ⟨q0, q1, qP, va_K.moved (u := U) (U := U.calling g mk a) (Vm.Alike.refl U.vm) qK, qD⟩, va_recv hKc hPc (ci := 5) (q0 := 0) rfl rfl, fun U hU hW => ⟨rfl, by rw [hU], by rw [hU]; exact hPc, va_K.moved hW.alike hKc, hDc.weaken (fun _ _ _ _ => trivial)⟩⟩ rfl rfl hl.1 rfl (lv_room (Nat.le_of_ble_eq_true rfl)) dX11_roomLeft_23 ⟨Nat.le_of_ble_eq_true rfl, Nat.le_of_ble_eq_true rfl⟩) hS (fun q _ h => hFc q h) hFc (fun ra24 u t H1 locs ht hvm hwra24 hB hz1 hk1 hS => ?_)
        obtain ⟨hP1, hK1, hD1⟩ := hB
        rw [ht] at hP1
        obtain ⟨hP, hD⟩ := va_join (wr := [(h0, .inr (11, [.ref r0, .ref r1, .ref r2, .ref r3, .ref h1, .ref h3, .ref r4, .ref r5, .ref r6, .ref r7, .ref r8, .ref r9, .ref r10, .ref r11, .int v0, .int v1, .long w2])), (h3, .inr (7, [.ref h4, .ref r13, .int v6, .int v7])), (h4, .inl (g1, 58, .inl f8))]) (w1 := [(h1, .inr (5, [.ref h2, .ref r12, .int v3, .int v4])), (h2, .inl (g0, 4, .inl f5))]) hP hD [1, 2] [0, 3, 4] rfl rfl (by decide) (by decide) hk1 hFc hP1 hD1
        generalize H1 = H at hP hS ⊢
        have hP := hP.sub (ws' := [(h0, .inr (11, [.ref r0, .ref r1, .ref r2, .ref r3, .ref h1, .ref h3, .ref r4, .ref r5, .ref r6, .ref r7, .ref r8, .ref r9, .ref r10, .ref r11, .int v0, .int v1, .long w2])), (h1, .inr (5, [.ref h2, .ref r12, .int v3, .int v4])), (h2, .inl (g0, 4, .inl f5)), (h3, .inr (7, [.ref h4, .ref r13, .int v6, .int v7])), (h4, .inl (g1, 58, .inl f8))]) [0, 3, 4, 1, 2] rfl
        have hD := hD.sub (ws' := [(h0, .inr (11, [.ref r0, .ref r1, .ref r2, .ref r3, .ref h1, .ref h3, .ref r4, .ref r5, .ref r6, .ref r7, .ref r8, .ref r9, .ref r10, .ref r11, .int v0, .int v1, .long w2])), (h1, .inr (5, [.ref h2, .ref r12, .int v3, .int v4])), (h2, .inl (g0, 4, .inl f5)), (h3, .inr (7, [.ref h4, .ref r13, .int v6, .int v7])), (h4, .inl (g1, 58, .inl f8))]) [0, 3, 4, 1, 2] (by decide) rfl
        have hP : va_P (dC, dI) vwCl [(h0, .inr (11, [.ref r0, .ref r1, .ref r2, .ref r3, .ref h1, .ref h3, .ref r4, .ref r5, .ref r6, .ref r7, .ref r8, .ref r9, .ref r10, .ref r11, .int v0, .int v1, .long w2])), (h1, .inr (5, [.ref h2, .ref r12, .int v3, .int v4])), (h2, .inl (g0, 4, .inl f5)), (h3, .inr (7, [.ref h4, .ref r13, .int v6, .int v7])), (h4, .inl (g1, 58, .inl f8))] H := hP
        have hD : va_D A [(h0, .inr (11, [.ref r0, .ref r1, .ref r2, .ref r3, .ref h1, .ref h3, .ref r4, .ref r5, .ref r6, .ref r7, .ref r8, .ref r9, .ref r10, .ref r11, .int v0, .int v1, .long w2])), (h1, .inr (5, [.ref h2, .ref r12, .int v3, .int v4])), (h2, .inl (g0, 4, .inl f5)), (h3, .inr (7, [.ref h4, .ref r13, .int v6, .int v7])), (h4, .inl (g1, 58, .inl f8))] := hD
        refine lv_aload_n hx hb dX11_roomLeft_26 rfl (lv_at hl 2 rfl) ?_
        refine va_get (D := (dC, dI)) (ci := 11) (v := .ref h3) (C := RX11) (T := TX11) (N := 17) hx hb hts (fun _ h => List.mem_cons_of_mem _ (List.mem_append_left _ (List.mem_append_left _ (List.mem_append_right _ h)))) hown hK hP 0 rfl rfl 5 (by decide) (hts (.fieldLink RX11 49 "LeftArguments" "room" "LLeftArguments$Room;") (List.mem_cons_of_mem _ (List.mem_append_left _ (List.mem_append_left _ (List.mem_append_left _ (List.mem_of_getElem? (i := 7) rfl)))))) (fun _ h9 => h9) rfl dX11_roomLeft_27 ?_
        refine lv_iload_n hx hb dX11_roomLeft_30 rfl (lv_at hl 0 rfl) ?_
        have hPc := hP.sub (ws' := [(h3, .inr (7, [.ref h4, .ref r13, .int v6, .int v7])), (h4, .inl (g1, 58, .inl f8))]) [3, 4] rfl
        have hDc := hD.sub (ws' := [(h3, .inr (7, [.ref h4, .ref r13, .int v6, .int v7])), (h4, .inl (g1, 58, .inl f8))]) [3, 4] (by decide) rfl
        have hKc := hK.sub (tys' := [(g1, .int)]) [1] rfl
        have hFc := va_free (wc := [(h3, .inr (7, [.ref h4, .ref r13, .int v6, .int v7])), (h4, .inl (g1, 58, .inl f8))]) hD hS hA [3, 4] rfl
        refine va_calli (va_runV (As := [.int x17]) (rest := [.int ra24, .int 0, .int x18]) ⟨hx, hb, hml, hown, hts⟩ (k_X7_loadOn l dC dI h3 h4 r13 v6 v7 g1 f8 x17  H.size) (cwV 1 hts g_X11_roomLeft_2 rfl rfl rfl (by decide +kernel) ⟨Nat.le_of_ble_eq_true rfl, Nat.le_of_ble_eq_true rfl⟩) ⟨fun a U g mk q => by obtain ⟨q0, q1, qP, qK, qD⟩ := q; exact ⟨q0, q1, qP, va_K.moved (u := U) (U := U.calling g mk a) (Vm.Alike.refl U.vm) qK, qD⟩, va_recv hKc hPc (ci := 7) (q0 := 0) rfl rfl, fun U hU hW => ⟨rfl, by rw [hU], by rw [hU]; exact hPc, va_K.moved hW.alike hKc, hDc.weaken (fun _ _ _ _ => trivial)⟩⟩ rfl rfl hl.1 rfl (lv_room (Nat.le_of_ble_eq_true rfl)) dX11_roomLeft_31 ⟨Nat.le_of_ble_eq_true rfl, Nat.le_of_ble_eq_true rfl⟩) hS (fun q _ h => hFc q h) hFc (fun ra25 u t H1 locs ht hvm hwra25 hB hz1 hk1 hS => ?_)
        obtain ⟨hP1, hK1, hD1⟩ := hB
        rw [ht] at hP1
        obtain ⟨hP, hD⟩ := va_join (wr := [(h0, .inr (11, [.ref r0, .ref r1, .ref r2, .ref r3, .ref h1, .ref h3, .ref r4, .ref r5, .ref r6, .ref r7, .ref r8, .ref r9, .ref r10, .ref r11, .int v0, .int v1, .long w2])), (h1, .inr (5, [.ref h2, .ref r12, .int v3, .int v4])), (h2, .inl (g0, 4, .inl f5))]) (w1 := [(h3, .inr (7, [.ref h4, .ref r13, .int v6, .int v7])), (h4, .inl (g1, 58, .inl f8))]) hP hD [3, 4] [0, 1, 2] rfl rfl (by decide) (by decide) hk1 hFc hP1 hD1
        generalize H1 = H at hP hS ⊢
        have hP : va_P (dC, dI) vwCl [(h0, .inr (11, [.ref r0, .ref r1, .ref r2, .ref r3, .ref h1, .ref h3, .ref r4, .ref r5, .ref r6, .ref r7, .ref r8, .ref r9, .ref r10, .ref r11, .int v0, .int v1, .long w2])), (h1, .inr (5, [.ref h2, .ref r12, .int v3, .int v4])), (h2, .inl (g0, 4, .inl f5)), (h3, .inr (7, [.ref h4, .ref r13, .int v6, .int v7])), (h4, .inl (g1, 58, .inl f8))] H := hP
        have hD : va_D A [(h0, .inr (11, [.ref r0, .ref r1, .ref r2, .ref r3, .ref h1, .ref h3, .ref r4, .ref r5, .ref r6, .ref r7, .ref r8, .ref r9, .ref r10, .ref r11, .int v0, .int v1, .long w2])), (h1, .inr (5, [.ref h2, .ref r12, .int v3, .int v4])), (h2, .inl (g0, 4, .inl f5)), (h3, .inr (7, [.ref h4, .ref r13, .int v6, .int v7])), (h4, .inl (g1, 58, .inl f8))] := hD
        refine lv_isub hx hb dX11_roomLeft_34 ?_
        refine lv_topi (fun t26 et26 => ?_)
        refine va_mmax hx hb (by rw [hml]; exact hl.1.symm) hown (hts (.methodLink RX11 369 Lib.Math.max.name) (List.mem_cons_of_mem _ (List.mem_append_left _ (List.mem_append_left _ (List.mem_append_left _ (List.mem_of_getElem? (i := 14) rfl)))))) (hts (.static Lib.Math.max.name) (List.mem_cons_of_mem _ (List.mem_append_left _ (List.mem_append_left _ (List.mem_append_left _ (List.mem_of_getElem? (i := 15) rfl)))))) (hts (.initialized "java/lang/Math") (List.mem_cons_of_mem _ (List.mem_append_left _ (List.mem_append_left _ (List.mem_append_left _ (List.mem_of_getElem? (i := 16) rfl)))))) (hts (.code Lib.Math.max.name Lib.Math.max.code 2 (some .int)) (List.mem_cons_of_mem _ (List.mem_append_left _ (List.mem_append_left _ (List.mem_append_left _ (List.mem_of_getElem? (i := 17) rfl)))))) (Nat.le_of_ble_eq_true rfl) (Nat.le_of_ble_eq_true rfl) (Nat.le_of_ble_eq_true rfl) (Nat.le_of_ble_eq_true rfl) dX11_roomLeft_35 ?_
        refine lv_topi (fun t27 et27 => ?_)
        obtain ⟨gat27, gbt27, gct27⟩ := pv_max (a := 0) (b := t26.toInt) et27 (by decide) rfl
        refine lv_iadd hx hb dX11_roomLeft_38 ?_
        refine lv_topi (fun t28 et28 => ?_)
        refine lv_istore_n (lv' := [(1, .int t28), (2, .int x17), (0, .ref h0)]) hx hb dX11_roomLeft_39 rfl hl (by decide) rfl (fun ls hl => ?_)
        obtain ⟨t29, et29⟩ : ∃ y : Int32, y = x17 + 1 := ⟨_, rfl⟩
        have gt29 : t29.toInt = x17.toInt + (1) := pv_add (a := x17.toInt) (b := (1)) et29 rfl (by decide) (by omega) (by omega)
        refine lv_iinc (v := t29) (lv' := [(2, .int t29), (1, .int t28), (0, .ref h0)]) hx hb dX11_roomLeft_40 hl (k := 1) rfl (by rw [et29]; rfl) (by decide) rfl (fun ls hl => ?_)
        refine lv_goto (tgt := 4) hx hb dX11_roomLeft_43 (by decide) ?_
        exact ih t29 t28 H locs ls (by first | omega | decide) (by first | omega | (simp only [Int.toNat] at *; omega)) hP hD hS (lv_sub hl [0, 1, 2] rfl)
  exact hL21 _ 0 0 H locs ls (by first | omega | decide) (Nat.lt_succ_self _) hP hD hS (lv_sub hl [0, 1, 2] rfl)
def q_X11_within_5 : List Cond := .code yX11_within cX11_within 3 (some .boolean) :: (([] : List Cond))
set_option maxHeartbeats 4000000 in
set_option maxRecDepth 100000 in
theorem k_X11_within_5 (l : Launch) (dC : Nat → ClassId) (dI : Nat → Nat → Nat) (v0 : Int32) (sz : Nat) : Met l yX11_within q_X11_within_5 ({ frames := 0, cells := 0, slots := 0, locals := 0 }) (va_Pc [.int v0, .int 0, .int 1] (fun U => U.heap.size = sz ∧ va_P (dC, dI) vwCl [] U.heap ∧ va_K (dC, dI) vwCl [] U ∧ va_D (fun _ => True) [])) (va_Qi (fun (r : Int32) (_ : Unit) => 0 ≤ r.toInt ∧ r.toInt ≤ 1 ∧ (r.toInt = 1 → 0 ≤ v0.toInt ∧ v0.toInt ≤ 1)) (fun (_ : Unit) (t : State) => va_P (dC, dI) vwCl [] t.heap ∧ va_K (dC, dI) vwCl [] t ∧ va_D (va_A [] sz) []) (va_A [] sz)) 0 0 (va_A [] sz) := by
  refine Met.ofW (cc := cX11_within) (maxL := 3) (ret := (some .boolean)) (by decide) rfl ?_
  intro p e s m args below meth c s₁ B hml hv
  obtain ⟨rfl, hsz, hP, hK, hD0⟩ := hv
  have hx := B.exec
  have hb := B.bytes
  have hr := B.returns
  have hts := atoms_spec (ws := q_X11_within_5) B.pre
  have hown : s.vm.findClass RX11 = some m.cls := findClass_of_methodNamed B.named
  have hlocks := B.notSynchronized
  subst hsz
  have hD := hD0.self (sz := s.heap.size)
  generalize hAe : va_A [] s.heap.size = A at hD ⊢
  have hA : ∀ q : Nat, s.heap.size ≤ q → A q := fun q h => by rw [← hAe]; exact Or.inr h
  have hS : va_S A s.heap s.heap [] := va_S.rf
  generalize hQ : (MQ below _ _ s 0 0 A) = Q
  have hl := lv_entry ([.int v0, .int 0, .int 1]) (n := 3) (Nat.le_of_ble_eq_true rfl)
  rw [lg_entry_eq]
  generalize (lg_sl ([.int v0, .int 0, .int 1]) ++ List.replicate (3 - (lg_sl ([.int v0, .int 0, .int 1])).length) Slot.unset).toArray = ls at hl ⊢
  have hl : lv_has ls 3 [(0, .int v0), (1, .int 0), (2, .int 1)] := hl
  obtain ⟨H, hH⟩ : ∃ H : Heap, H = s.heap := ⟨_, rfl⟩
  obtain ⟨locs, hlocs⟩ : ∃ y : List Loc, y = [] := ⟨_, rfl⟩
  have hS : va_S A s.heap H locs := by rw [hH, hlocs]; exact va_S.rf
  have hP : va_P (dC, dI) vwCl [] H := by rw [hH]; exact hP
  rw [← hH, ← hlocs]
  refine lv_iload_n hx hb dX11_within_0 rfl (lv_at hl 0 rfl) ?_
  refine lv_iload_n hx hb dX11_within_1 rfl (lv_at hl 1 rfl) ?_
  refine lv_icmp_lt (tgt := 14) hx hb dX11_within_2 (by decide) (fun c1 => ?_) (fun c1 => ?_)
  · skip
    have fc1 : v0.toInt < 0 := Int32.lt_iff_toInt_lt.mp c1
    refine lv_iconst (v := 0) hx hb dX11_within_14 (by decide) ?_
    subst hQ
    have hP9 := hP.sub (ws' := []) [] rfl
    have hD9 := hD.sub (ws' := []) [] (by decide) rfl
    have hK9 := hK.sub (tys' := []) [] rfl
    exact W.zret (v := 0) hx hb hr rfl (fun t ht hW => ⟨⟨0, (), rfl, ⟨by first | omega | decide, by first | omega | decide, fun h9 => absurd h9 (by decide)⟩, by rw [ht]; exact hP9, va_K.moved hW.alike hK9, hD9⟩, hS.F ht⟩) hS.2.2 dX11_within_15
  · skip
    have fc1 : ¬ (v0.toInt < 0) := fun h9 => c1 (Int32.lt_iff_toInt_lt.mpr h9)
    refine lv_iload_n hx hb dX11_within_5 rfl (lv_at hl 0 rfl) ?_
    refine lv_iload_n hx hb dX11_within_6 rfl (lv_at hl 2 rfl) ?_
    refine lv_icmp_gt (tgt := 14) hx hb dX11_within_7 (by decide) (fun c2 => ?_) (fun c2 => ?_)
    · skip
      have fc2 : 1 < v0.toInt := Int32.lt_iff_toInt_lt.mp c2
      refine lv_iconst (v := 0) hx hb dX11_within_14 (by decide) ?_
      subst hQ
      have hP9 := hP.sub (ws' := []) [] rfl
      have hD9 := hD.sub (ws' := []) [] (by decide) rfl
      have hK9 := hK.sub (tys' := []) [] rfl
      exact W.zret (v := 0) hx hb hr rfl (fun t ht hW => ⟨⟨0, (), rfl, ⟨by first | omega | decide, by first | omega | decide, fun h9 => absurd h9 (by decide)⟩, by rw [ht]; exact hP9, va_K.moved hW.alike hK9, hD9⟩, hS.F ht⟩) hS.2.2 dX11_within_15
    · skip
      have fc2 : ¬ (1 < v0.toInt) := fun h9 => c2 (Int32.lt_iff_toInt_lt.mpr h9)
      refine lv_iconst (v := 1) hx hb dX11_within_10 (by decide) ?_
      refine lv_goto (tgt := 15) hx hb dX11_within_11 (by decide) ?_
      subst hQ
      have hP9 := hP.sub (ws' := []) [] rfl
      have hD9 := hD.sub (ws' := []) [] (by decide) rfl
      have hK9 := hK.sub (tys' := []) [] rfl
      exact W.zret (v := 1) hx hb hr rfl (fun t ht hW => ⟨⟨1, (), rfl, ⟨by first | omega | decide, by first | omega | decide, fun _ => ⟨by omega, by omega⟩⟩, by rw [ht]; exact hP9, va_K.moved hW.alike hK9, hD9⟩, hS.F ht⟩) hS.2.2 dX11_within_15
def q_X8_gather : List Cond := .code yX8_gather cX8_gather 3 none :: (([.fieldLink RX8 30 "LeftArguments$Rows" "bags" "I", .code yX7_has cX7_has 2 (some .boolean), .fieldLink RX7 11 "LeftArguments$Room" "cells" "[I", .initialized RX7, .instanceMethod yX7_has, .selects RX7 yX7_has yX7_has, .methodLink RX8 41 yX7_has, .fieldLink RX8 18 "LeftArguments$Rows" "places" "[I", .fieldLink RX8 9 "LeftArguments$Rows" "sizes" "[I", .code yX7_of cX7_of 3 (some .int), .instanceMethod yX7_of, .selects RX7 yX7_of yX7_of, .methodLink RX8 47 yX7_of, .fieldLink RX8 15 "LeftArguments$Rows" "circles" "[I", .code yX7_circleOf cX7_circleOf 4 (some .int), .methodLink RX7 70 yX7_has, .code yX7_setOff cX7_setOff 3 (some .boolean), .methodLink RX7 74 yX7_of, .methodLink RX7 110 Lib.Math.abs.name, .static Lib.Math.abs.name, .initialized "java/lang/Math", .code Lib.Math.abs.name Lib.Math.abs.code 1 (some .int), .instanceMethod yX7_setOff, .selects RX7 yX7_setOff yX7_setOff, .methodLink RX7 113 yX7_setOff, .instanceMethod yX7_circleOf, .selects RX7 yX7_circleOf yX7_circleOf, .methodLink RX8 51 yX7_circleOf] : List Cond) ++ wsX80 ++ wsX70)
set_option maxRecDepth 20000 in
theorem g_X8_gather_0 : GoodIn q_X8_gather (wsV RX8 41 RX7 yX7_has q_X7_has) := goodIn_app (goodIn_r _ [7, 5, 6, 4] (by decide +kernel) (by decide +kernel)) (goodIn_ca (goodIn_r (.code yX7_has cX7_has 2 (some .boolean) :: [.fieldLink RX7 11 "LeftArguments$Room" "cells" "[I"]) [2, 3] (by decide +kernel) (by decide +kernel)) (goodIn_sub (fun _ h => List.mem_cons_of_mem _ (List.mem_append_right _ h)) gwX7))
set_option maxRecDepth 20000 in
theorem g_X8_gather_1 : GoodIn q_X8_gather (wsV RX8 47 RX7 yX7_of q_X7_of) := goodIn_app (goodIn_r _ [13, 11, 12, 4] (by decide +kernel) (by decide +kernel)) (goodIn_ca (goodIn_r (.code yX7_of cX7_of 3 (some .int) :: [.fieldLink RX7 11 "LeftArguments$Room" "cells" "[I"]) [10, 3] (by decide +kernel) (by decide +kernel)) (goodIn_sub (fun _ h => List.mem_cons_of_mem _ (List.mem_append_right _ h)) gwX7))
set_option maxRecDepth 20000 in
theorem g_X8_gather_2 : GoodIn q_X8_gather (wsV RX8 51 RX7 yX7_circleOf q_X7_circleOf) := goodIn_app (goodIn_r _ [28, 26, 27, 4] (by decide +kernel) (by decide +kernel)) (goodIn_ca (goodIn_r (.code yX7_circleOf cX7_circleOf 4 (some .int) :: [.code yX7_has cX7_has 2 (some .boolean), .fieldLink RX7 11 "LeftArguments$Room" "cells" "[I", .initialized RX7, .instanceMethod yX7_has, .selects RX7 yX7_has yX7_has, .methodLink RX7 70 yX7_has, .code yX7_setOff cX7_setOff 3 (some .boolean), .code yX7_of cX7_of 3 (some .int), .instanceMethod yX7_of, .selects RX7 yX7_of yX7_of, .methodLink RX7 74 yX7_of, .methodLink RX7 110 Lib.Math.abs.name, .static Lib.Math.abs.name, .initialized "java/lang/Math", .code Lib.Math.abs.name Lib.Math.abs.code 1 (some .int), .instanceMethod yX7_setOff, .selects RX7 yX7_setOff yX7_setOff, .methodLink RX7 113 yX7_setOff]) [15, 2, 3, 4, 5, 6, 16, 17, 10, 11, 12, 18, 19, 20, 21, 22, 23, 24, 25] (by decide +kernel) (by decide +kernel)) (goodIn_sub (fun _ h => List.mem_cons_of_mem _ (List.mem_append_right _ h)) gwX7))
set_option maxHeartbeats 4000000 in
set_option maxRecDepth 100000 in
theorem k_X8_gather (l : Launch) (dC : Nat → ClassId) (dI : Nat → Nat → Nat) (h0 : Nat) (h1 : Nat) (h2 : Nat) (h3 : Nat) (h4 : Nat) (h5 : Nat) (r0 : Nat) (r1 : Nat) (r2 : Nat) (v0 : Int32) (v1 : Int32) (v2 : Int32) (r3 : Nat) (v3 : Int32) (v4 : Int32) (g0 : ClassId) (f5 : Nat → Int32) (g1 : ClassId) (f6 : Nat → Int32) (g2 : ClassId) (f7 : Nat → Int32) (g3 : ClassId) (f8 : Nat → Int32) (i_v2 : 0 ≤ v2.toInt ∧ v2.toInt ≤ 1) (sz : Nat) : Met l yX8_gather q_X8_gather ({ frames := 3, cells := 0, slots := 0, locals := 67 }) (va_Pc [.ref h0, .ref h1] (fun U => U.heap.size = sz ∧ va_P (dC, dI) vwCl [(h0, .inr (8, [.ref h3, .ref h4, .ref h5, .ref r0, .ref r1, .ref r2, .int v0, .int v1, .int v2])), (h1, .inr (7, [.ref h2, .ref r3, .int v3, .int v4])), (h2, .inl (g0, 58, .inl f5)), (h3, .inl (g1, 8, .inl f6)), (h4, .inl (g2, 8, .inl f7)), (h5, .inl (g3, 8, .inl f8))] U.heap ∧ va_K (dC, dI) vwCl [(g0, .int), (g1, .int), (g2, .int), (g3, .int)] U ∧ va_D (fun _ => True) [(h0, .inr (8, [.ref h3, .ref h4, .ref h5, .ref r0, .ref r1, .ref r2, .int v0, .int v1, .int v2])), (h1, .inr (7, [.ref h2, .ref r3, .int v3, .int v4])), (h2, .inl (g0, 58, .inl f5)), (h3, .inl (g1, 8, .inl f6)), (h4, .inl (g2, 8, .inl f7)), (h5, .inl (g3, 8, .inl f8))])) (va_Qv (fun (_ : Unit) => True) (fun (_ : Unit) (t : State) => ∃ (o_h0_6 : Int32) (o_h3 : Nat → Int32) (o_h4 : Nat → Int32) (o_h5 : Nat → Int32), va_P (dC, dI) vwCl [(h0, .inr (8, [.ref h3, .ref h4, .ref h5, .ref r0, .ref r1, .ref r2, .int o_h0_6, .int v1, .int v2])), (h1, .inr (7, [.ref h2, .ref r3, .int v3, .int v4])), (h2, .inl (g0, 58, .inl f5)), (h3, .inl (g1, 8, .inl o_h3)), (h4, .inl (g2, 8, .inl o_h4)), (h5, .inl (g3, 8, .inl o_h5))] t.heap ∧ va_K (dC, dI) vwCl [] t ∧ va_D (va_A [(h0, .inr (8, [.ref h3, .ref h4, .ref h5, .ref r0, .ref r1, .ref r2, .int v0, .int v1, .int v2])), (h1, .inr (7, [.ref h2, .ref r3, .int v3, .int v4])), (h2, .inl (g0, 58, .inl f5)), (h3, .inl (g1, 8, .inl f6)), (h4, .inl (g2, 8, .inl f7)), (h5, .inl (g3, 8, .inl f8))] sz) [(h0, .inr (8, [.ref h3, .ref h4, .ref h5, .ref r0, .ref r1, .ref r2, .int o_h0_6, .int v1, .int v2])), (h1, .inr (7, [.ref h2, .ref r3, .int v3, .int v4])), (h2, .inl (g0, 58, .inl f5)), (h3, .inl (g1, 8, .inl o_h3)), (h4, .inl (g2, 8, .inl o_h4)), (h5, .inl (g3, 8, .inl o_h5))]) (va_A [(h0, .inr (8, [.ref h3, .ref h4, .ref h5, .ref r0, .ref r1, .ref r2, .int v0, .int v1, .int v2])), (h1, .inr (7, [.ref h2, .ref r3, .int v3, .int v4])), (h2, .inl (g0, 58, .inl f5)), (h3, .inl (g1, 8, .inl f6)), (h4, .inl (g2, 8, .inl f7)), (h5, .inl (g3, 8, .inl f8))] sz)) 0 0 (va_A [(h0, .inr (8, [.ref h3, .ref h4, .ref h5, .ref r0, .ref r1, .ref r2, .int v0, .int v1, .int v2])), (h1, .inr (7, [.ref h2, .ref r3, .int v3, .int v4])), (h2, .inl (g0, 58, .inl f5)), (h3, .inl (g1, 8, .inl f6)), (h4, .inl (g2, 8, .inl f7)), (h5, .inl (g3, 8, .inl f8))] sz) := by
  refine Met.ofW (cc := cX8_gather) (maxL := 3) (ret := none) (by decide) rfl ?_
  intro p e s m args below meth c s₁ B hml hv
  obtain ⟨i_v2a, i_v2b⟩ := i_v2
  obtain ⟨rfl, hsz, hP, hK, hD0⟩ := hv
  have hx := B.exec
  have hb := B.bytes
  have hr := B.returns
  have hts := atoms_spec (ws := q_X8_gather) B.pre
  have hown : s.vm.findClass RX8 = some m.cls := findClass_of_methodNamed B.named
  have hlocks := B.notSynchronized
  subst hsz
  have hD := hD0.self (sz := s.heap.size)
  generalize hAe : va_A [(h0, .inr (8, [.ref h3, .ref h4, .ref h5, .ref r0, .ref r1, .ref r2, .int v0, .int v1, .int v2])), (h1, .inr (7, [.ref h2, .ref r3, .int v3, .int v4])), (h2, .inl (g0, 58, .inl f5)), (h3, .inl (g1, 8, .inl f6)), (h4, .inl (g2, 8, .inl f7)), (h5, .inl (g3, 8, .inl f8))] s.heap.size = A at hD ⊢
  have hA : ∀ q : Nat, s.heap.size ≤ q → A q := fun q h => by rw [← hAe]; exact Or.inr h
  have hS : va_S A s.heap s.heap [] := va_S.rf
  generalize hQ : (MQ below _ _ s 0 0 A) = Q
  have hl := lv_entry ([.ref h0, .ref h1]) (n := 3) (Nat.le_of_ble_eq_true rfl)
  rw [lg_entry_eq]
  generalize (lg_sl ([.ref h0, .ref h1]) ++ List.replicate (3 - (lg_sl ([.ref h0, .ref h1])).length) Slot.unset).toArray = ls at hl ⊢
  have hl : lv_has ls 3 [(0, .ref h0), (1, .ref h1)] := hl
  obtain ⟨H, hH⟩ : ∃ H : Heap, H = s.heap := ⟨_, rfl⟩
  obtain ⟨locs, hlocs⟩ : ∃ y : List Loc, y = [] := ⟨_, rfl⟩
  have hS : va_S A s.heap H locs := by rw [hH, hlocs]; exact va_S.rf
  have hP : va_P (dC, dI) vwCl [(h0, .inr (8, [.ref h3, .ref h4, .ref h5, .ref r0, .ref r1, .ref r2, .int v0, .int v1, .int v2])), (h1, .inr (7, [.ref h2, .ref r3, .int v3, .int v4])), (h2, .inl (g0, 58, .inl f5)), (h3, .inl (g1, 8, .inl f6)), (h4, .inl (g2, 8, .inl f7)), (h5, .inl (g3, 8, .inl f8))] H := by rw [hH]; exact hP
  rw [← hH, ← hlocs]
  refine lv_aload_n hx hb dX8_gather_0 rfl (lv_at hl 0 rfl) ?_
  refine lv_iconst (v := 0) hx hb dX8_gather_1 (by decide) ?_
  refine va_put (D := (dC, dI)) (ci := 8) (v := .int 0) (ty := .int) (C := RX8) (T := TX8) (N := 9) hx hb hts (fun _ h => List.mem_cons_of_mem _ (List.mem_append_left _ (List.mem_append_right _ h))) tyX8 tyX8_ok nmX8 hown hK hP hD hS 0 rfl rfl 6 (by decide) (hts (.fieldLink RX8 30 "LeftArguments$Rows" "bags" "I") (List.mem_cons_of_mem _ (List.mem_append_left _ (List.mem_append_left _ (List.mem_of_getElem? (i := 0) rfl))))) (fun _ h9 => h9) rfl (by decide +kernel) rfl rfl (Nat.le_of_ble_eq_true rfl) dX8_gather_2 (fun H locs hP hD hS => ?_)
  have hP : va_P (dC, dI) vwCl [(h0, .inr (8, [.ref h3, .ref h4, .ref h5, .ref r0, .ref r1, .ref r2, .int 0, .int v1, .int v2])), (h1, .inr (7, [.ref h2, .ref r3, .int v3, .int v4])), (h2, .inl (g0, 58, .inl f5)), (h3, .inl (g1, 8, .inl f6)), (h4, .inl (g2, 8, .inl f7)), (h5, .inl (g3, 8, .inl f8))] H := hP
  have hD : va_D A [(h0, .inr (8, [.ref h3, .ref h4, .ref h5, .ref r0, .ref r1, .ref r2, .int 0, .int v1, .int v2])), (h1, .inr (7, [.ref h2, .ref r3, .int v3, .int v4])), (h2, .inl (g0, 58, .inl f5)), (h3, .inl (g1, 8, .inl f6)), (h4, .inl (g2, 8, .inl f7)), (h5, .inl (g3, 8, .inl f8))] := hD
  refine lv_iconst (v := 0) hx hb dX8_gather_5 (by decide) ?_
  refine lv_istore_n (lv' := [(2, .int 0), (0, .ref h0), (1, .ref h1)]) hx hb dX8_gather_6 rfl hl (by decide) rfl (fun ls hl => ?_)
  have hL26 : ∀ (n9 : Nat), ∀ (x16 : Int32) (x17 : Int32) (fn18 : Nat → Int32) (fn19 : Nat → Int32) (fn20 : Nat → Int32) (H : Heap) (locs : List Loc) (ls : Array Slot), 0 ≤ x16.toInt → x16.toInt ≤ 8 → 0 ≤ x17.toInt → x17.toInt ≤ 8 → (8 - x16.toInt).toNat < n9 → va_P (dC, dI) vwCl [(h0, .inr (8, [.ref h3, .ref h4, .ref h5, .ref r0, .ref r1, .ref r2, .int x17, .int v1, .int v2])), (h1, .inr (7, [.ref h2, .ref r3, .int v3, .int v4])), (h2, .inl (g0, 58, .inl f5)), (h3, .inl (g1, 8, .inl fn18)), (h4, .inl (g2, 8, .inl fn19)), (h5, .inl (g3, 8, .inl fn20))] H → va_D A [(h0, .inr (8, [.ref h3, .ref h4, .ref h5, .ref r0, .ref r1, .ref r2, .int x17, .int v1, .int v2])), (h1, .inr (7, [.ref h2, .ref r3, .int v3, .int v4])), (h2, .inl (g0, 58, .inl f5)), (h3, .inl (g1, 8, .inl fn18)), (h4, .inl (g2, 8, .inl fn19)), (h5, .inl (g3, 8, .inl fn20))] → va_S A s.heap H locs → lv_has ls 3 [(2, .int x16), (0, .ref h0), (1, .ref h1)] → W p l e ({ frames := 3, cells := 0, slots := 0, locals := 67 }) s m ([.ref h0, .ref h1] : List Value).toArray below meth c H locs 0 0 Q (F0 m 7 ls []) := by
    intro n9
    induction n9 with
    | zero => intro x16 x17 fn18 fn19 fn20 H locs ls qa_x16 qb_x16 qa_x17 qb_x17 hm9 hP hD hS hl; exact absurd hm9 (Nat.not_lt_zero _)
    | succ n9 ih =>
      intro x16 x17 fn18 fn19 fn20 H locs ls qa_x16 qb_x16 qa_x17 qb_x17 hm9 hP hD hS hl
      refine lv_iload_n hx hb dX8_gather_7 rfl (lv_at hl 0 rfl) ?_
      refine lv_bipush (v := 8) hx hb dX8_gather_8 (by decide) ?_
      refine lv_icmp_ge (tgt := 85) hx hb dX8_gather_10 (by decide) (fun c27 => ?_) (fun c27 => ?_)
      · skip
        have fc27 : 8 ≤ x16.toInt := Int32.le_iff_toInt_le.mp c27
        subst hQ
        have hP9 := hP.sub (ws' := [(h0, .inr (8, [.ref h3, .ref h4, .ref h5, .ref r0, .ref r1, .ref r2, .int x17, .int v1, .int v2])), (h1, .inr (7, [.ref h2, .ref r3, .int v3, .int v4])), (h2, .inl (g0, 58, .inl f5)), (h3, .inl (g1, 8, .inl fn18)), (h4, .inl (g2, 8, .inl fn19)), (h5, .inl (g3, 8, .inl fn20))]) [0, 1, 2, 3, 4, 5] rfl
        have hD9 := hD.sub (ws' := [(h0, .inr (8, [.ref h3, .ref h4, .ref h5, .ref r0, .ref r1, .ref r2, .int x17, .int v1, .int v2])), (h1, .inr (7, [.ref h2, .ref r3, .int v3, .int v4])), (h2, .inl (g0, 58, .inl f5)), (h3, .inl (g1, 8, .inl fn18)), (h4, .inl (g2, 8, .inl fn19)), (h5, .inl (g3, 8, .inl fn20))]) [0, 1, 2, 3, 4, 5] (by decide) rfl
        have hK9 := hK.sub (tys' := []) [] rfl
        exact W.vret hx hb hr (fun t ht hW => ⟨⟨(), rfl, trivial, x17, fn18, fn19, fn20, by rw [ht]; exact hP9, va_K.moved hW.alike hK9, hD9⟩, hS.F ht⟩) hS.2.2 dX8_gather_85
      · skip
        have fc27 : ¬ (8 ≤ x16.toInt) := fun h9 => c27 (Int32.le_iff_toInt_le.mpr h9)
        refine lv_aload_n hx hb dX8_gather_13 rfl (lv_at hl 2 rfl) ?_
        refine lv_iload_n hx hb dX8_gather_14 rfl (lv_at hl 0 rfl) ?_
        have hPc := hP.sub (ws' := [(h1, .inr (7, [.ref h2, .ref r3, .int v3, .int v4])), (h2, .inl (g0, 58, .inl f5))]) [1, 2] rfl
        have hDc := hD.sub (ws' := [(h1, .inr (7, [.ref h2, .ref r3, .int v3, .int v4])), (h2, .inl (g0, 58, .inl f5))]) [1, 2] (by decide) rfl
        have hKc := hK.sub (tys' := [(g0, .int)]) [0] rfl
        have hFc := va_free (wc := [(h1, .inr (7, [.ref h2, .ref r3, .int v3, .int v4])), (h2, .inl (g0, 58, .inl f5))]) hD hS hA [1, 2] rfl
        refine va_calli (va_runV (As := [.int x16]) (rest := []) ⟨hx, hb, hml, hown, hts⟩ (k_X7_has l dC dI h1 h2 r3 v3 v4 g0 f5 x16  H.size) (cwV 1 hts g_X8_gather_0 rfl rfl rfl (by decide +kernel) ⟨Nat.le_of_ble_eq_true rfl, Nat.le_of_ble_eq_true rfl⟩) ⟨fun a U g mk q => by obtain ⟨q0, q1, qP, qK, qD⟩ := q; exact ⟨q0, q1, qP, va_K.moved (u := U) (U := U.calling g mk a) (Vm.Alike.refl U.vm) qK, qD⟩, va_recv hKc hPc (ci := 7) (q0 := 0) rfl rfl, fun U hU hW => ⟨rfl, by rw [hU], by rw [hU]; exact hPc, va_K.moved hW.alike hKc, hDc.weaken (fun _ _ _ _ => trivial)⟩⟩ rfl rfl hl.1 rfl (lv_room (Nat.le_of_ble_eq_true rfl)) dX8_gather_15 ⟨Nat.le_of_ble_eq_true rfl, Nat.le_of_ble_eq_true rfl⟩) hS (fun q _ h => hFc q h) hFc (fun ra28 u t H1 locs ht hvm hwra28 hB hz1 hk1 hS => ?_)
        obtain ⟨hP1, hK1, hD1⟩ := hB
        rw [ht] at hP1
        obtain ⟨hP, hD⟩ := va_join (wr := [(h0, .inr (8, [.ref h3, .ref h4, .ref h5, .ref r0, .ref r1, .ref r2, .int x17, .int v1, .int v2])), (h3, .inl (g1, 8, .inl fn18)), (h4, .inl (g2, 8, .inl fn19)), (h5, .inl (g3, 8, .inl fn20))]) (w1 := [(h1, .inr (7, [.ref h2, .ref r3, .int v3, .int v4])), (h2, .inl (g0, 58, .inl f5))]) hP hD [1, 2] [0, 3, 4, 5] rfl rfl (by decide) (by decide) hk1 hFc hP1 hD1
        generalize H1 = H at hP hS ⊢
        have hP := hP.sub (ws' := [(h0, .inr (8, [.ref h3, .ref h4, .ref h5, .ref r0, .ref r1, .ref r2, .int x17, .int v1, .int v2])), (h1, .inr (7, [.ref h2, .ref r3, .int v3, .int v4])), (h2, .inl (g0, 58, .inl f5)), (h3, .inl (g1, 8, .inl fn18)), (h4, .inl (g2, 8, .inl fn19)), (h5, .inl (g3, 8, .inl fn20))]) [0, 4, 5, 1, 2, 3] rfl
        have hD := hD.sub (ws' := [(h0, .inr (8, [.ref h3, .ref h4, .ref h5, .ref r0, .ref r1, .ref r2, .int x17, .int v1, .int v2])), (h1, .inr (7, [.ref h2, .ref r3, .int v3, .int v4])), (h2, .inl (g0, 58, .inl f5)), (h3, .inl (g1, 8, .inl fn18)), (h4, .inl (g2, 8, .inl fn19)), (h5, .inl (g3, 8, .inl fn20))]) [0, 4, 5, 1, 2, 3] (by decide) rfl
        have hP : va_P (dC, dI) vwCl [(h0, .inr (8, [.ref h3, .ref h4, .ref h5, .ref r0, .ref r1, .ref r2, .int x17, .int v1, .int v2])), (h1, .inr (7, [.ref h2, .ref r3, .int v3, .int v4])), (h2, .inl (g0, 58, .inl f5)), (h3, .inl (g1, 8, .inl fn18)), (h4, .inl (g2, 8, .inl fn19)), (h5, .inl (g3, 8, .inl fn20))] H := hP
        have hD : va_D A [(h0, .inr (8, [.ref h3, .ref h4, .ref h5, .ref r0, .ref r1, .ref r2, .int x17, .int v1, .int v2])), (h1, .inr (7, [.ref h2, .ref r3, .int v3, .int v4])), (h2, .inl (g0, 58, .inl f5)), (h3, .inl (g1, 8, .inl fn18)), (h4, .inl (g2, 8, .inl fn19)), (h5, .inl (g3, 8, .inl fn20))] := hD
        obtain ⟨wa_ra28, wb_ra28⟩ := hwra28
        have wa_ra28 : 0 ≤ ra28.toInt := wa_ra28
        have wb_ra28 : ra28.toInt ≤ 1 := wb_ra28
        have hJ33 : ∀ (x29 : Int32) (fn30 : Nat → Int32) (fn31 : Nat → Int32) (fn32 : Nat → Int32) (H : Heap) (locs : List Loc) (ls : Array Slot), 0 ≤ x29.toInt → x29.toInt ≤ 8 → va_P (dC, dI) vwCl [(h0, .inr (8, [.ref h3, .ref h4, .ref h5, .ref r0, .ref r1, .ref r2, .int x29, .int v1, .int v2])), (h1, .inr (7, [.ref h2, .ref r3, .int v3, .int v4])), (h2, .inl (g0, 58, .inl f5)), (h3, .inl (g1, 8, .inl fn30)), (h4, .inl (g2, 8, .inl fn31)), (h5, .inl (g3, 8, .inl fn32))] H → va_D A [(h0, .inr (8, [.ref h3, .ref h4, .ref h5, .ref r0, .ref r1, .ref r2, .int x29, .int v1, .int v2])), (h1, .inr (7, [.ref h2, .ref r3, .int v3, .int v4])), (h2, .inl (g0, 58, .inl f5)), (h3, .inl (g1, 8, .inl fn30)), (h4, .inl (g2, 8, .inl fn31)), (h5, .inl (g3, 8, .inl fn32))] → va_S A s.heap H locs → lv_has ls 3 [(2, .int x16), (0, .ref h0), (1, .ref h1)] → W p l e ({ frames := 3, cells := 0, slots := 0, locals := 67 }) s m ([.ref h0, .ref h1] : List Value).toArray below meth c H locs 0 0 Q (F0 m 79 ls []) := by
          intro x29 fn30 fn31 fn32 H locs ls qa_x29 qb_x29 hP hD hS hl
          obtain ⟨t34, et34⟩ : ∃ y : Int32, y = x16 + 1 := ⟨_, rfl⟩
          have gt34 : t34.toInt = x16.toInt + (1) := pv_add (a := x16.toInt) (b := (1)) et34 rfl (by decide) (by omega) (by omega)
          refine lv_iinc (v := t34) (lv' := [(2, .int t34), (0, .ref h0), (1, .ref h1)]) hx hb dX8_gather_79 hl (k := 0) rfl (by rw [et34]; rfl) (by decide) rfl (fun ls hl => ?_)
          refine lv_goto (tgt := 7) hx hb dX8_gather_82 (by decide) ?_
          exact ih t34 x29 fn30 fn31 fn32 H locs ls (by first | omega | decide) (by first | omega | decide) (by first | omega | decide) (by first | omega | decide) (by first | omega | (simp only [Int.toNat] at *; omega)) hP hD hS (lv_sub hl [0, 1, 2] rfl)
        refine lv_if_eq (tgt := 79) hx hb dX8_gather_18 (by decide) (fun c35 => ?_) (fun c35 => ?_)
        · skip
          have fc35 : ra28.toInt = 0 := congrArg Int32.toInt c35
          exact hJ33 x17 fn18 fn19 fn20 H locs ls (by first | omega | decide) (by first | omega | decide) hP hD hS (lv_sub hl [0, 1, 2] rfl)
        · skip
          have fc35 : ¬ (ra28.toInt = 0) := fun h9 => c35 (Int32.toInt_inj.mp h9)
          refine lv_aload_n hx hb dX8_gather_21 rfl (lv_at hl 1 rfl) ?_
          refine va_get (D := (dC, dI)) (ci := 8) (v := .int x17) (C := RX8) (T := TX8) (N := 9) hx hb hts (fun _ h => List.mem_cons_of_mem _ (List.mem_append_left _ (List.mem_append_right _ h))) hown hK hP 0 rfl rfl 6 (by decide) (hts (.fieldLink RX8 30 "LeftArguments$Rows" "bags" "I") (List.mem_cons_of_mem _ (List.mem_append_left _ (List.mem_append_left _ (List.mem_of_getElem? (i := 0) rfl))))) (fun _ h9 => h9) rfl dX8_gather_22 ?_
          refine lv_bipush (v := 8) hx hb dX8_gather_25 (by decide) ?_
          refine lv_icmp_ge (tgt := 79) hx hb dX8_gather_27 (by decide) (fun c36 => ?_) (fun c36 => ?_)
          · skip
            have fc36 : 8 ≤ x17.toInt := Int32.le_iff_toInt_le.mp c36
            exact hJ33 x17 fn18 fn19 fn20 H locs ls (by first | omega | decide) (by first | omega | decide) hP hD hS (lv_sub hl [0, 1, 2] rfl)
          · skip
            have fc36 : ¬ (8 ≤ x17.toInt) := fun h9 => c36 (Int32.le_iff_toInt_le.mpr h9)
            refine lv_aload_n hx hb dX8_gather_30 rfl (lv_at hl 1 rfl) ?_
            refine va_get (D := (dC, dI)) (ci := 8) (v := .ref h5) (C := RX8) (T := TX8) (N := 9) hx hb hts (fun _ h => List.mem_cons_of_mem _ (List.mem_append_left _ (List.mem_append_right _ h))) hown hK hP 0 rfl rfl 2 (by decide) (hts (.fieldLink RX8 18 "LeftArguments$Rows" "places" "[I") (List.mem_cons_of_mem _ (List.mem_append_left _ (List.mem_append_left _ (List.mem_of_getElem? (i := 7) rfl))))) (fun _ h9 => h9) rfl dX8_gather_31 ?_
            refine lv_aload_n hx hb dX8_gather_34 rfl (lv_at hl 1 rfl) ?_
            refine va_get (D := (dC, dI)) (ci := 8) (v := .int x17) (C := RX8) (T := TX8) (N := 9) hx hb hts (fun _ h => List.mem_cons_of_mem _ (List.mem_append_left _ (List.mem_append_right _ h))) hown hK hP 0 rfl rfl 6 (by decide) (hts (.fieldLink RX8 30 "LeftArguments$Rows" "bags" "I") (List.mem_cons_of_mem _ (List.mem_append_left _ (List.mem_append_left _ (List.mem_of_getElem? (i := 0) rfl))))) (fun _ h9 => h9) rfl dX8_gather_35 ?_
            refine lv_iload_n hx hb dX8_gather_38 rfl (lv_at hl 0 rfl) ?_
            refine va_iast hx hb hK hP hD hS 5 3 rfl rfl (vp_in_iff.mpr ⟨by omega, by omega⟩) dX8_gather_39 (fun H locs hP hD hS => ?_)
            obtain ⟨fn37, efn37⟩ : ∃ g : Nat → Int32, g = upd fn20 (Int32.toNatClampNeg x17) x16 := ⟨_, rfl⟩
            rw [← efn37] at hP hD
            have hP : va_P (dC, dI) vwCl [(h0, .inr (8, [.ref h3, .ref h4, .ref h5, .ref r0, .ref r1, .ref r2, .int x17, .int v1, .int v2])), (h1, .inr (7, [.ref h2, .ref r3, .int v3, .int v4])), (h2, .inl (g0, 58, .inl f5)), (h3, .inl (g1, 8, .inl fn18)), (h4, .inl (g2, 8, .inl fn19)), (h5, .inl (g3, 8, .inl fn37))] H := hP
            have hD : va_D A [(h0, .inr (8, [.ref h3, .ref h4, .ref h5, .ref r0, .ref r1, .ref r2, .int x17, .int v1, .int v2])), (h1, .inr (7, [.ref h2, .ref r3, .int v3, .int v4])), (h2, .inl (g0, 58, .inl f5)), (h3, .inl (g1, 8, .inl fn18)), (h4, .inl (g2, 8, .inl fn19)), (h5, .inl (g3, 8, .inl fn37))] := hD
            refine lv_aload_n hx hb dX8_gather_40 rfl (lv_at hl 1 rfl) ?_
            refine va_get (D := (dC, dI)) (ci := 8) (v := .ref h3) (C := RX8) (T := TX8) (N := 9) hx hb hts (fun _ h => List.mem_cons_of_mem _ (List.mem_append_left _ (List.mem_append_right _ h))) hown hK hP 0 rfl rfl 0 (by decide) (hts (.fieldLink RX8 9 "LeftArguments$Rows" "sizes" "[I") (List.mem_cons_of_mem _ (List.mem_append_left _ (List.mem_append_left _ (List.mem_of_getElem? (i := 8) rfl))))) (fun _ h9 => h9) rfl dX8_gather_41 ?_
            refine lv_aload_n hx hb dX8_gather_44 rfl (lv_at hl 1 rfl) ?_
            refine va_get (D := (dC, dI)) (ci := 8) (v := .int x17) (C := RX8) (T := TX8) (N := 9) hx hb hts (fun _ h => List.mem_cons_of_mem _ (List.mem_append_left _ (List.mem_append_right _ h))) hown hK hP 0 rfl rfl 6 (by decide) (hts (.fieldLink RX8 30 "LeftArguments$Rows" "bags" "I") (List.mem_cons_of_mem _ (List.mem_append_left _ (List.mem_append_left _ (List.mem_of_getElem? (i := 0) rfl))))) (fun _ h9 => h9) rfl dX8_gather_45 ?_
            refine lv_aload_n hx hb dX8_gather_48 rfl (lv_at hl 2 rfl) ?_
            refine lv_iload_n hx hb dX8_gather_49 rfl (lv_at hl 0 rfl) ?_
            refine lv_iconst (v := 0) hx hb dX8_gather_50 (by decide) ?_
            have hPc := hP.sub (ws' := [(h1, .inr (7, [.ref h2, .ref r3, .int v3, .int v4])), (h2, .inl (g0, 58, .inl f5))]) [1, 2] rfl
            have hDc := hD.sub (ws' := [(h1, .inr (7, [.ref h2, .ref r3, .int v3, .int v4])), (h2, .inl (g0, 58, .inl f5))]) [1, 2] (by decide) rfl
            have hKc := hK.sub (tys' := [(g0, .int)]) [0] rfl
            have hFc := va_free (wc := [(h1, .inr (7, [.ref h2, .ref r3, .int v3, .int v4])), (h2, .inl (g0, 58, .inl f5))]) hD hS hA [1, 2] rfl
            refine va_calli (va_runV (As := [.int x16, .int 0]) (rest := [.int x17, .ref h3]) ⟨hx, hb, hml, hown, hts⟩ (k_X7_of l dC dI h1 h2 r3 v3 v4 g0 f5 x16 0  H.size) (cwV 2 hts g_X8_gather_1 rfl rfl rfl (by decide +kernel) ⟨Nat.le_of_ble_eq_true rfl, Nat.le_of_ble_eq_true rfl⟩) ⟨fun a U g mk q => by obtain ⟨q0, q1, qP, qK, qD⟩ := q; exact ⟨q0, q1, qP, va_K.moved (u := U) (U := U.calling g mk a) (Vm.Alike.refl U.vm) qK, qD⟩, va_recv hKc hPc (ci := 7) (q0 := 0) rfl rfl, fun U hU hW => ⟨rfl, by rw [hU], by rw [hU]; exact hPc, va_K.moved hW.alike hKc, hDc.weaken (fun _ _ _ _ => trivial)⟩⟩ rfl rfl hl.1 rfl (lv_room (Nat.le_of_ble_eq_true rfl)) dX8_gather_51 ⟨Nat.le_of_ble_eq_true rfl, Nat.le_of_ble_eq_true rfl⟩) hS (fun q _ h => hFc q h) hFc (fun ra38 u t H1 locs ht hvm hwra38 hB hz1 hk1 hS => ?_)
            obtain ⟨hP1, hK1, hD1⟩ := hB
            rw [ht] at hP1
            obtain ⟨hP, hD⟩ := va_join (wr := [(h0, .inr (8, [.ref h3, .ref h4, .ref h5, .ref r0, .ref r1, .ref r2, .int x17, .int v1, .int v2])), (h3, .inl (g1, 8, .inl fn18)), (h4, .inl (g2, 8, .inl fn19)), (h5, .inl (g3, 8, .inl fn37))]) (w1 := [(h1, .inr (7, [.ref h2, .ref r3, .int v3, .int v4])), (h2, .inl (g0, 58, .inl f5))]) hP hD [1, 2] [0, 3, 4, 5] rfl rfl (by decide) (by decide) hk1 hFc hP1 hD1
            generalize H1 = H at hP hS ⊢
            have hP := hP.sub (ws' := [(h0, .inr (8, [.ref h3, .ref h4, .ref h5, .ref r0, .ref r1, .ref r2, .int x17, .int v1, .int v2])), (h1, .inr (7, [.ref h2, .ref r3, .int v3, .int v4])), (h2, .inl (g0, 58, .inl f5)), (h3, .inl (g1, 8, .inl fn18)), (h4, .inl (g2, 8, .inl fn19)), (h5, .inl (g3, 8, .inl fn37))]) [0, 4, 5, 1, 2, 3] rfl
            have hD := hD.sub (ws' := [(h0, .inr (8, [.ref h3, .ref h4, .ref h5, .ref r0, .ref r1, .ref r2, .int x17, .int v1, .int v2])), (h1, .inr (7, [.ref h2, .ref r3, .int v3, .int v4])), (h2, .inl (g0, 58, .inl f5)), (h3, .inl (g1, 8, .inl fn18)), (h4, .inl (g2, 8, .inl fn19)), (h5, .inl (g3, 8, .inl fn37))]) [0, 4, 5, 1, 2, 3] (by decide) rfl
            have hP : va_P (dC, dI) vwCl [(h0, .inr (8, [.ref h3, .ref h4, .ref h5, .ref r0, .ref r1, .ref r2, .int x17, .int v1, .int v2])), (h1, .inr (7, [.ref h2, .ref r3, .int v3, .int v4])), (h2, .inl (g0, 58, .inl f5)), (h3, .inl (g1, 8, .inl fn18)), (h4, .inl (g2, 8, .inl fn19)), (h5, .inl (g3, 8, .inl fn37))] H := hP
            have hD : va_D A [(h0, .inr (8, [.ref h3, .ref h4, .ref h5, .ref r0, .ref r1, .ref r2, .int x17, .int v1, .int v2])), (h1, .inr (7, [.ref h2, .ref r3, .int v3, .int v4])), (h2, .inl (g0, 58, .inl f5)), (h3, .inl (g1, 8, .inl fn18)), (h4, .inl (g2, 8, .inl fn19)), (h5, .inl (g3, 8, .inl fn37))] := hD
            refine va_iast hx hb hK hP hD hS 3 1 rfl rfl (vp_in_iff.mpr ⟨by omega, by omega⟩) dX8_gather_54 (fun H locs hP hD hS => ?_)
            obtain ⟨fn39, efn39⟩ : ∃ g : Nat → Int32, g = upd fn18 (Int32.toNatClampNeg x17) ra38 := ⟨_, rfl⟩
            rw [← efn39] at hP hD
            have hP : va_P (dC, dI) vwCl [(h0, .inr (8, [.ref h3, .ref h4, .ref h5, .ref r0, .ref r1, .ref r2, .int x17, .int v1, .int v2])), (h1, .inr (7, [.ref h2, .ref r3, .int v3, .int v4])), (h2, .inl (g0, 58, .inl f5)), (h3, .inl (g1, 8, .inl fn39)), (h4, .inl (g2, 8, .inl fn19)), (h5, .inl (g3, 8, .inl fn37))] H := hP
            have hD : va_D A [(h0, .inr (8, [.ref h3, .ref h4, .ref h5, .ref r0, .ref r1, .ref r2, .int x17, .int v1, .int v2])), (h1, .inr (7, [.ref h2, .ref r3, .int v3, .int v4])), (h2, .inl (g0, 58, .inl f5)), (h3, .inl (g1, 8, .inl fn39)), (h4, .inl (g2, 8, .inl fn19)), (h5, .inl (g3, 8, .inl fn37))] := hD
            refine lv_aload_n hx hb dX8_gather_55 rfl (lv_at hl 1 rfl) ?_
            refine va_get (D := (dC, dI)) (ci := 8) (v := .ref h4) (C := RX8) (T := TX8) (N := 9) hx hb hts (fun _ h => List.mem_cons_of_mem _ (List.mem_append_left _ (List.mem_append_right _ h))) hown hK hP 0 rfl rfl 1 (by decide) (hts (.fieldLink RX8 15 "LeftArguments$Rows" "circles" "[I") (List.mem_cons_of_mem _ (List.mem_append_left _ (List.mem_append_left _ (List.mem_of_getElem? (i := 13) rfl))))) (fun _ h9 => h9) rfl dX8_gather_56 ?_
            refine lv_aload_n hx hb dX8_gather_59 rfl (lv_at hl 1 rfl) ?_
            refine va_get (D := (dC, dI)) (ci := 8) (v := .int x17) (C := RX8) (T := TX8) (N := 9) hx hb hts (fun _ h => List.mem_cons_of_mem _ (List.mem_append_left _ (List.mem_append_right _ h))) hown hK hP 0 rfl rfl 6 (by decide) (hts (.fieldLink RX8 30 "LeftArguments$Rows" "bags" "I") (List.mem_cons_of_mem _ (List.mem_append_left _ (List.mem_append_left _ (List.mem_of_getElem? (i := 0) rfl))))) (fun _ h9 => h9) rfl dX8_gather_60 ?_
            refine lv_aload_n hx hb dX8_gather_63 rfl (lv_at hl 2 rfl) ?_
            refine lv_iload_n hx hb dX8_gather_64 rfl (lv_at hl 0 rfl) ?_
            have hPc := hP.sub (ws' := [(h1, .inr (7, [.ref h2, .ref r3, .int v3, .int v4])), (h2, .inl (g0, 58, .inl f5))]) [1, 2] rfl
            have hDc := hD.sub (ws' := [(h1, .inr (7, [.ref h2, .ref r3, .int v3, .int v4])), (h2, .inl (g0, 58, .inl f5))]) [1, 2] (by decide) rfl
            have hKc := hK.sub (tys' := [(g0, .int)]) [0] rfl
            have hFc := va_free (wc := [(h1, .inr (7, [.ref h2, .ref r3, .int v3, .int v4])), (h2, .inl (g0, 58, .inl f5))]) hD hS hA [1, 2] rfl
            refine va_calli (va_runV (As := [.int x16]) (rest := [.int x17, .ref h4]) ⟨hx, hb, hml, hown, hts⟩ (k_X7_circleOf l dC dI h1 h2 r3 v3 v4 g0 f5 x16  H.size) (cwV 1 hts g_X8_gather_2 rfl rfl rfl (by decide +kernel) ⟨Nat.le_of_ble_eq_true rfl, Nat.le_of_ble_eq_true rfl⟩) ⟨fun a U g mk q => by obtain ⟨q0, q1, qP, qK, qD⟩ := q; exact ⟨q0, q1, qP, va_K.moved (u := U) (U := U.calling g mk a) (Vm.Alike.refl U.vm) qK, qD⟩, va_recv hKc hPc (ci := 7) (q0 := 0) rfl rfl, fun U hU hW => ⟨rfl, by rw [hU], by rw [hU]; exact hPc, va_K.moved hW.alike hKc, hDc.weaken (fun _ _ _ _ => trivial)⟩⟩ rfl rfl hl.1 rfl (lv_room (Nat.le_of_ble_eq_true rfl)) dX8_gather_65 ⟨Nat.le_of_ble_eq_true rfl, Nat.le_of_ble_eq_true rfl⟩) hS (fun q _ h => hFc q h) hFc (fun ra40 u t H1 locs ht hvm hwra40 hB hz1 hk1 hS => ?_)
            obtain ⟨hP1, hK1, hD1⟩ := hB
            rw [ht] at hP1
            obtain ⟨hP, hD⟩ := va_join (wr := [(h0, .inr (8, [.ref h3, .ref h4, .ref h5, .ref r0, .ref r1, .ref r2, .int x17, .int v1, .int v2])), (h3, .inl (g1, 8, .inl fn39)), (h4, .inl (g2, 8, .inl fn19)), (h5, .inl (g3, 8, .inl fn37))]) (w1 := [(h1, .inr (7, [.ref h2, .ref r3, .int v3, .int v4])), (h2, .inl (g0, 58, .inl f5))]) hP hD [1, 2] [0, 3, 4, 5] rfl rfl (by decide) (by decide) hk1 hFc hP1 hD1
            generalize H1 = H at hP hS ⊢
            have hP := hP.sub (ws' := [(h0, .inr (8, [.ref h3, .ref h4, .ref h5, .ref r0, .ref r1, .ref r2, .int x17, .int v1, .int v2])), (h1, .inr (7, [.ref h2, .ref r3, .int v3, .int v4])), (h2, .inl (g0, 58, .inl f5)), (h3, .inl (g1, 8, .inl fn39)), (h4, .inl (g2, 8, .inl fn19)), (h5, .inl (g3, 8, .inl fn37))]) [0, 4, 5, 1, 2, 3] rfl
            have hD := hD.sub (ws' := [(h0, .inr (8, [.ref h3, .ref h4, .ref h5, .ref r0, .ref r1, .ref r2, .int x17, .int v1, .int v2])), (h1, .inr (7, [.ref h2, .ref r3, .int v3, .int v4])), (h2, .inl (g0, 58, .inl f5)), (h3, .inl (g1, 8, .inl fn39)), (h4, .inl (g2, 8, .inl fn19)), (h5, .inl (g3, 8, .inl fn37))]) [0, 4, 5, 1, 2, 3] (by decide) rfl
            have hP : va_P (dC, dI) vwCl [(h0, .inr (8, [.ref h3, .ref h4, .ref h5, .ref r0, .ref r1, .ref r2, .int x17, .int v1, .int v2])), (h1, .inr (7, [.ref h2, .ref r3, .int v3, .int v4])), (h2, .inl (g0, 58, .inl f5)), (h3, .inl (g1, 8, .inl fn39)), (h4, .inl (g2, 8, .inl fn19)), (h5, .inl (g3, 8, .inl fn37))] H := hP
            have hD : va_D A [(h0, .inr (8, [.ref h3, .ref h4, .ref h5, .ref r0, .ref r1, .ref r2, .int x17, .int v1, .int v2])), (h1, .inr (7, [.ref h2, .ref r3, .int v3, .int v4])), (h2, .inl (g0, 58, .inl f5)), (h3, .inl (g1, 8, .inl fn39)), (h4, .inl (g2, 8, .inl fn19)), (h5, .inl (g3, 8, .inl fn37))] := hD
            refine va_iast hx hb hK hP hD hS 4 2 rfl rfl (vp_in_iff.mpr ⟨by omega, by omega⟩) dX8_gather_68 (fun H locs hP hD hS => ?_)
            obtain ⟨fn41, efn41⟩ : ∃ g : Nat → Int32, g = upd fn19 (Int32.toNatClampNeg x17) ra40 := ⟨_, rfl⟩
            rw [← efn41] at hP hD
            have hP : va_P (dC, dI) vwCl [(h0, .inr (8, [.ref h3, .ref h4, .ref h5, .ref r0, .ref r1, .ref r2, .int x17, .int v1, .int v2])), (h1, .inr (7, [.ref h2, .ref r3, .int v3, .int v4])), (h2, .inl (g0, 58, .inl f5)), (h3, .inl (g1, 8, .inl fn39)), (h4, .inl (g2, 8, .inl fn41)), (h5, .inl (g3, 8, .inl fn37))] H := hP
            have hD : va_D A [(h0, .inr (8, [.ref h3, .ref h4, .ref h5, .ref r0, .ref r1, .ref r2, .int x17, .int v1, .int v2])), (h1, .inr (7, [.ref h2, .ref r3, .int v3, .int v4])), (h2, .inl (g0, 58, .inl f5)), (h3, .inl (g1, 8, .inl fn39)), (h4, .inl (g2, 8, .inl fn41)), (h5, .inl (g3, 8, .inl fn37))] := hD
            refine lv_aload_n hx hb dX8_gather_69 rfl (lv_at hl 1 rfl) ?_
            refine lv_dup hx hb dX8_gather_70 rfl ?_
            refine va_get (D := (dC, dI)) (ci := 8) (v := .int x17) (C := RX8) (T := TX8) (N := 9) hx hb hts (fun _ h => List.mem_cons_of_mem _ (List.mem_append_left _ (List.mem_append_right _ h))) hown hK hP 0 rfl rfl 6 (by decide) (hts (.fieldLink RX8 30 "LeftArguments$Rows" "bags" "I") (List.mem_cons_of_mem _ (List.mem_append_left _ (List.mem_append_left _ (List.mem_of_getElem? (i := 0) rfl))))) (fun _ h9 => h9) rfl dX8_gather_71 ?_
            refine lv_iconst (v := 1) hx hb dX8_gather_74 (by decide) ?_
            refine lv_iadd hx hb dX8_gather_75 ?_
            refine lv_topi (fun t42 et42 => ?_)
            have gt42 : t42.toInt = x17.toInt + 1 := pv_add (a := x17.toInt) (b := 1) et42 rfl (by decide) (by omega) (by omega)
            refine va_put (D := (dC, dI)) (ci := 8) (v := .int t42) (ty := .int) (C := RX8) (T := TX8) (N := 9) hx hb hts (fun _ h => List.mem_cons_of_mem _ (List.mem_append_left _ (List.mem_append_right _ h))) tyX8 tyX8_ok nmX8 hown hK hP hD hS 0 rfl rfl 6 (by decide) (hts (.fieldLink RX8 30 "LeftArguments$Rows" "bags" "I") (List.mem_cons_of_mem _ (List.mem_append_left _ (List.mem_append_left _ (List.mem_of_getElem? (i := 0) rfl))))) (fun _ h9 => h9) rfl (by decide +kernel) rfl rfl (Nat.le_of_ble_eq_true rfl) dX8_gather_76 (fun H locs hP hD hS => ?_)
            have hP : va_P (dC, dI) vwCl [(h0, .inr (8, [.ref h3, .ref h4, .ref h5, .ref r0, .ref r1, .ref r2, .int t42, .int v1, .int v2])), (h1, .inr (7, [.ref h2, .ref r3, .int v3, .int v4])), (h2, .inl (g0, 58, .inl f5)), (h3, .inl (g1, 8, .inl fn39)), (h4, .inl (g2, 8, .inl fn41)), (h5, .inl (g3, 8, .inl fn37))] H := hP
            have hD : va_D A [(h0, .inr (8, [.ref h3, .ref h4, .ref h5, .ref r0, .ref r1, .ref r2, .int t42, .int v1, .int v2])), (h1, .inr (7, [.ref h2, .ref r3, .int v3, .int v4])), (h2, .inl (g0, 58, .inl f5)), (h3, .inl (g1, 8, .inl fn39)), (h4, .inl (g2, 8, .inl fn41)), (h5, .inl (g3, 8, .inl fn37))] := hD
            exact hJ33 t42 fn39 fn41 fn37 H locs ls (by first | omega | decide) (by first | omega | decide) hP hD hS (lv_sub hl [0, 1, 2] rfl)
  exact hL26 _ 0 0 f6 f7 f8 H locs ls (by first | omega | decide) (by first | omega | decide) (by first | omega | decide) (by first | omega | decide) (Nat.lt_succ_self _) hP hD hS (lv_sub hl [0, 1, 2] rfl)
