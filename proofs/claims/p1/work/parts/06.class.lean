def q_X10_used : List Cond := .code yX10_used cX10_used 1 (some .int) :: (([.fieldLink RX10 15 "LeftArguments$Tape" "used" "I"] : List Cond) ++ wsX100)
set_option maxHeartbeats 4000000 in
set_option maxRecDepth 100000 in
theorem k_X10_used (l : Launch) (dC : Nat → ClassId) (dI : Nat → Nat → Nat) (h0 : Nat) (r0 : Nat) (sz : Nat) : Met l yX10_used q_X10_used ({ frames := 0, cells := 0, slots := 0, locals := 0 }) (va_Pc [.ref h0] (fun U => U.heap.size = sz ∧ va_P (dC, dI) vwCl [(h0, .inr (10, [.ref r0, .int 0, .int 0, .int (-1), .int 0]))] U.heap ∧ va_K (dC, dI) vwCl [] U ∧ va_D (fun _ => True) [(h0, .inr (10, [.ref r0, .int 0, .int 0, .int (-1), .int 0]))])) (va_Qi (fun (r : Int32) (_ : Unit) => r = 0) (fun (_ : Unit) (t : State) => va_P (dC, dI) vwCl [(h0, .inr (10, [.ref r0, .int 0, .int 0, .int (-1), .int 0]))] t.heap ∧ va_K (dC, dI) vwCl [] t ∧ va_D (va_A [(h0, .inr (10, [.ref r0, .int 0, .int 0, .int (-1), .int 0]))] sz) [(h0, .inr (10, [.ref r0, .int 0, .int 0, .int (-1), .int 0]))]) (va_A [(h0, .inr (10, [.ref r0, .int 0, .int 0, .int (-1), .int 0]))] sz)) 0 0 (va_A [(h0, .inr (10, [.ref r0, .int 0, .int 0, .int (-1), .int 0]))] sz) := by
  refine Met.ofW (cc := cX10_used) (maxL := 1) (ret := (some .int)) (by decide) rfl ?_
  intro p e s m args below meth c s₁ B hml hv
  obtain ⟨rfl, hsz, hP, hK, hD0⟩ := hv
  have hx := B.exec
  have hb := B.bytes
  have hr := B.returns
  have hts := atoms_spec (ws := q_X10_used) B.pre
  have hown : s.vm.findClass RX10 = some m.cls := findClass_of_methodNamed B.named
  have hlocks := B.notSynchronized
  subst hsz
  have hD := hD0.self (sz := s.heap.size)
  generalize hAe : va_A [(h0, .inr (10, [.ref r0, .int 0, .int 0, .int (-1), .int 0]))] s.heap.size = A at hD ⊢
  have hA : ∀ q : Nat, s.heap.size ≤ q → A q := fun q h => by rw [← hAe]; exact Or.inr h
  have hS : va_S A s.heap s.heap [] := va_S.rf
  have hl := lv_entry ([.ref h0]) (n := 1) (Nat.le_of_ble_eq_true rfl)
  rw [lg_entry_eq]
  generalize (lg_sl ([.ref h0]) ++ List.replicate (1 - (lg_sl ([.ref h0])).length) Slot.unset).toArray = ls at hl ⊢
  have hl : lv_has ls 1 [(0, .ref h0)] := hl
  refine lv_aload_n hx hb dX10_used_0 rfl (lv_at hl 0 rfl) ?_
  refine va_get (D := (dC, dI)) (ci := 10) (v := .int 0) (C := RX10) (T := TX10) (N := 5) hx hb hts (fun _ h => List.mem_cons_of_mem _ (List.mem_append_right _ h)) hown hK hP 0 rfl rfl 1 (by decide) (hts (.fieldLink RX10 15 "LeftArguments$Tape" "used" "I") (List.mem_cons_of_mem _ (List.mem_append_left _ (List.mem_of_getElem? (i := 0) rfl)))) (fun _ h9 => h9) rfl dX10_used_1 ?_
  have hP9 := hP.sub (ws' := [(h0, .inr (10, [.ref r0, .int 0, .int 0, .int (-1), .int 0]))]) [0] rfl
  have hD9 := hD.sub (ws' := [(h0, .inr (10, [.ref r0, .int 0, .int 0, .int (-1), .int 0]))]) [0] (by decide) rfl
  have hK9 := hK.sub (tys' := []) [] rfl
  exact W.iret (v := 0) hx hb hr (fun t ht hW => ⟨⟨0, (), rfl, rfl, by rw [ht]; exact hP9, va_K.moved hW.alike hK9, hD9⟩, hS.F ht⟩) hS.2.2 dX10_used_4
def q_X10_cut : List Cond := .code yX10_cut cX10_cut 2 none :: (([.fieldLink RX10 15 "LeftArguments$Tape" "used" "I", .methodLink RX10 28 Lib.Math.min.name, .static Lib.Math.min.name, .initialized "java/lang/Math", .code Lib.Math.min.name Lib.Math.min.code 2 (some .int), .methodLink RX10 34 Lib.Math.max.name, .static Lib.Math.max.name, .code Lib.Math.max.name Lib.Math.max.code 2 (some .int)] : List Cond) ++ wsX100)
set_option maxHeartbeats 4000000 in
set_option maxRecDepth 100000 in
theorem k_X10_cut (l : Launch) (dC : Nat → ClassId) (dI : Nat → Nat → Nat) (h0 : Nat) (r0 : Nat) (v0 : Int32) (sz : Nat) : Met l yX10_cut q_X10_cut ({ frames := 1, cells := 0, slots := 0, locals := 15 }) (va_Pc [.ref h0, .int v0] (fun U => U.heap.size = sz ∧ va_P (dC, dI) vwCl [(h0, .inr (10, [.ref r0, .int 0, .int 0, .int (-1), .int 0]))] U.heap ∧ va_K (dC, dI) vwCl [] U ∧ va_D (fun _ => True) [(h0, .inr (10, [.ref r0, .int 0, .int 0, .int (-1), .int 0]))])) (va_Qv (fun (_ : Unit) => True) (fun (_ : Unit) (t : State) => va_P (dC, dI) vwCl [(h0, .inr (10, [.ref r0, .int (if 0 < (if v0 < 0 then v0 else 0) then (if v0 < 0 then v0 else 0) else 0), .int 0, .int (-1), .int 0]))] t.heap ∧ va_K (dC, dI) vwCl [] t ∧ va_D (va_A [(h0, .inr (10, [.ref r0, .int 0, .int 0, .int (-1), .int 0]))] sz) [(h0, .inr (10, [.ref r0, .int (if 0 < (if v0 < 0 then v0 else 0) then (if v0 < 0 then v0 else 0) else 0), .int 0, .int (-1), .int 0]))]) (va_A [(h0, .inr (10, [.ref r0, .int 0, .int 0, .int (-1), .int 0]))] sz)) 0 0 (va_A [(h0, .inr (10, [.ref r0, .int 0, .int 0, .int (-1), .int 0]))] sz) := by
  refine Met.ofW (cc := cX10_cut) (maxL := 2) (ret := none) (by decide) rfl ?_
  intro p e s m args below meth c s₁ B hml hv
  obtain ⟨rfl, hsz, hP, hK, hD0⟩ := hv
  have hx := B.exec
  have hb := B.bytes
  have hr := B.returns
  have hts := atoms_spec (ws := q_X10_cut) B.pre
  have hown : s.vm.findClass RX10 = some m.cls := findClass_of_methodNamed B.named
  have hlocks := B.notSynchronized
  subst hsz
  have hD := hD0.self (sz := s.heap.size)
  generalize hAe : va_A [(h0, .inr (10, [.ref r0, .int 0, .int 0, .int (-1), .int 0]))] s.heap.size = A at hD ⊢
  have hA : ∀ q : Nat, s.heap.size ≤ q → A q := fun q h => by rw [← hAe]; exact Or.inr h
  have hS : va_S A s.heap s.heap [] := va_S.rf
  have hl := lv_entry ([.ref h0, .int v0]) (n := 2) (Nat.le_of_ble_eq_true rfl)
  rw [lg_entry_eq]
  generalize (lg_sl ([.ref h0, .int v0]) ++ List.replicate (2 - (lg_sl ([.ref h0, .int v0])).length) Slot.unset).toArray = ls at hl ⊢
  have hl : lv_has ls 2 [(0, .ref h0), (1, .int v0)] := hl
  refine lv_aload_n hx hb dX10_cut_0 rfl (lv_at hl 0 rfl) ?_
  refine lv_iconst (v := 0) hx hb dX10_cut_1 (by decide) ?_
  refine lv_aload_n hx hb dX10_cut_2 rfl (lv_at hl 0 rfl) ?_
  refine va_get (D := (dC, dI)) (ci := 10) (v := .int 0) (C := RX10) (T := TX10) (N := 5) hx hb hts (fun _ h => List.mem_cons_of_mem _ (List.mem_append_right _ h)) hown hK hP 0 rfl rfl 1 (by decide) (hts (.fieldLink RX10 15 "LeftArguments$Tape" "used" "I") (List.mem_cons_of_mem _ (List.mem_append_left _ (List.mem_of_getElem? (i := 0) rfl)))) (fun _ h9 => h9) rfl dX10_cut_3 ?_
  refine lv_iload_n hx hb dX10_cut_6 rfl (lv_at hl 1 rfl) ?_
  refine va_mmin hx hb (by rw [hml]; exact hl.1.symm) hown (hts (.methodLink RX10 28 Lib.Math.min.name) (List.mem_cons_of_mem _ (List.mem_append_left _ (List.mem_of_getElem? (i := 1) rfl)))) (hts (.static Lib.Math.min.name) (List.mem_cons_of_mem _ (List.mem_append_left _ (List.mem_of_getElem? (i := 2) rfl)))) (hts (.initialized "java/lang/Math") (List.mem_cons_of_mem _ (List.mem_append_left _ (List.mem_of_getElem? (i := 3) rfl)))) (hts (.code Lib.Math.min.name Lib.Math.min.code 2 (some .int)) (List.mem_cons_of_mem _ (List.mem_append_left _ (List.mem_of_getElem? (i := 4) rfl)))) (Nat.le_of_ble_eq_true rfl) (Nat.le_of_ble_eq_true rfl) (Nat.le_of_ble_eq_true rfl) (Nat.le_of_ble_eq_true rfl) dX10_cut_7 ?_
  refine va_mmax hx hb (by rw [hml]; exact hl.1.symm) hown (hts (.methodLink RX10 34 Lib.Math.max.name) (List.mem_cons_of_mem _ (List.mem_append_left _ (List.mem_of_getElem? (i := 5) rfl)))) (hts (.static Lib.Math.max.name) (List.mem_cons_of_mem _ (List.mem_append_left _ (List.mem_of_getElem? (i := 6) rfl)))) (hts (.initialized "java/lang/Math") (List.mem_cons_of_mem _ (List.mem_append_left _ (List.mem_of_getElem? (i := 3) rfl)))) (hts (.code Lib.Math.max.name Lib.Math.max.code 2 (some .int)) (List.mem_cons_of_mem _ (List.mem_append_left _ (List.mem_of_getElem? (i := 7) rfl)))) (Nat.le_of_ble_eq_true rfl) (Nat.le_of_ble_eq_true rfl) (Nat.le_of_ble_eq_true rfl) (Nat.le_of_ble_eq_true rfl) dX10_cut_10 ?_
  refine va_put (D := (dC, dI)) (ci := 10) (v := .int (if 0 < (if v0 < 0 then v0 else 0) then (if v0 < 0 then v0 else 0) else 0)) (ty := .int) (C := RX10) (T := TX10) (N := 5) hx hb hts (fun _ h => List.mem_cons_of_mem _ (List.mem_append_right _ h)) tyX10 tyX10_ok nmX10 hown hK hP hD hS 0 rfl rfl 1 (by decide) (hts (.fieldLink RX10 15 "LeftArguments$Tape" "used" "I") (List.mem_cons_of_mem _ (List.mem_append_left _ (List.mem_of_getElem? (i := 0) rfl)))) (fun _ h9 => h9) rfl (by decide +kernel) rfl rfl (Nat.le_of_ble_eq_true rfl) dX10_cut_13 (fun H locs hP hD hS => ?_)
  have hP : va_P (dC, dI) vwCl [(h0, .inr (10, [.ref r0, .int (if 0 < (if v0 < 0 then v0 else 0) then (if v0 < 0 then v0 else 0) else 0), .int 0, .int (-1), .int 0]))] H := hP
  have hD : va_D A [(h0, .inr (10, [.ref r0, .int (if 0 < (if v0 < 0 then v0 else 0) then (if v0 < 0 then v0 else 0) else 0), .int 0, .int (-1), .int 0]))] := hD
  have hP9 := hP.sub (ws' := [(h0, .inr (10, [.ref r0, .int (if 0 < (if v0 < 0 then v0 else 0) then (if v0 < 0 then v0 else 0) else 0), .int 0, .int (-1), .int 0]))]) [0] rfl
  have hD9 := hD.sub (ws' := [(h0, .inr (10, [.ref r0, .int (if 0 < (if v0 < 0 then v0 else 0) then (if v0 < 0 then v0 else 0) else 0), .int 0, .int (-1), .int 0]))]) [0] (by decide) rfl
  have hK9 := hK.sub (tys' := []) [] rfl
  exact W.vret hx hb hr (fun t ht hW => ⟨⟨(), rfl, trivial, by rw [ht]; exact hP9, va_K.moved hW.alike hK9, hD9⟩, hS.F ht⟩) hS.2.2 dX10_cut_16
def q_X11_end : List Cond := .code yX11_end cX11_end 2 (some .boolean) :: (([.fieldLink RX11 10 "LeftArguments" "tape" "LLeftArguments$Tape;", .code yX10_used cX10_used 1 (some .int), .fieldLink RX10 15 "LeftArguments$Tape" "used" "I", .initialized RX10, .instanceMethod yX10_used, .selects RX10 yX10_used yX10_used, .methodLink RX11 116 yX10_used, .code yX10_cut cX10_cut 2 none, .methodLink RX10 28 Lib.Math.min.name, .static Lib.Math.min.name, .initialized "java/lang/Math", .code Lib.Math.min.name Lib.Math.min.code 2 (some .int), .methodLink RX10 34 Lib.Math.max.name, .static Lib.Math.max.name, .code Lib.Math.max.name Lib.Math.max.code 2 (some .int), .instanceMethod yX10_cut, .selects RX10 yX10_cut yX10_cut, .methodLink RX11 124 yX10_cut] : List Cond) ++ wsX110 ++ wsX100)
set_option maxRecDepth 20000 in
theorem g_X11_end_0 : GoodIn q_X11_end (wsV RX11 116 RX10 yX10_used q_X10_used) := goodIn_app (goodIn_r _ [7, 5, 6, 4] (by decide +kernel) (by decide +kernel)) (goodIn_ca (goodIn_r (.code yX10_used cX10_used 1 (some .int) :: [.fieldLink RX10 15 "LeftArguments$Tape" "used" "I"]) [2, 3] (by decide +kernel) (by decide +kernel)) (goodIn_sub (fun _ h => List.mem_cons_of_mem _ (List.mem_append_right _ h)) gwX10))
set_option maxRecDepth 20000 in
theorem g_X11_end_1 : GoodIn q_X11_end (wsV RX11 124 RX10 yX10_cut q_X10_cut) := goodIn_app (goodIn_r _ [18, 16, 17, 4] (by decide +kernel) (by decide +kernel)) (goodIn_ca (goodIn_r (.code yX10_cut cX10_cut 2 none :: [.fieldLink RX10 15 "LeftArguments$Tape" "used" "I", .methodLink RX10 28 Lib.Math.min.name, .static Lib.Math.min.name, .initialized "java/lang/Math", .code Lib.Math.min.name Lib.Math.min.code 2 (some .int), .methodLink RX10 34 Lib.Math.max.name, .static Lib.Math.max.name, .code Lib.Math.max.name Lib.Math.max.code 2 (some .int)]) [8, 3, 9, 10, 11, 12, 13, 14, 15] (by decide +kernel) (by decide +kernel)) (goodIn_sub (fun _ h => List.mem_cons_of_mem _ (List.mem_append_right _ h)) gwX10))
set_option maxHeartbeats 4000000 in
set_option maxRecDepth 100000 in
theorem k_X11_end (l : Launch) (dC : Nat → ClassId) (dI : Nat → Nat → Nat) (h0 h1 : Nat) (r0 r1 r2 r3 r4 r5 r6 r7 r8 r9 r10 r11 r12 r13 : Nat) (v0 : Int32) (sz : Nat) : Met l yX11_end q_X11_end ({ frames := 2, cells := 0, slots := 0, locals := 36 }) (va_Pc [.ref h0, .int v0] (fun U => U.heap.size = sz ∧ va_P (dC, dI) vwCl [(h0, .inr (11, [.ref h1, .ref r0, .ref r1, .ref r2, .ref r3, .ref r4, .ref r5, .ref r6, .ref r7, .ref r8, .ref r9, .ref r10, .ref r11, .ref r12, .int 0, .int 5, .long 0])), (h1, .inr (10, [.ref r13, .int 0, .int 0, .int (-1), .int 0]))] U.heap ∧ va_K (dC, dI) vwCl [] U ∧ va_D (fun _ => True) [(h0, .inr (11, [.ref h1, .ref r0, .ref r1, .ref r2, .ref r3, .ref r4, .ref r5, .ref r6, .ref r7, .ref r8, .ref r9, .ref r10, .ref r11, .ref r12, .int 0, .int 5, .long 0])), (h1, .inr (10, [.ref r13, .int 0, .int 0, .int (-1), .int 0]))])) (va_Qi (fun (r : Int32) (_ : Unit) => r = (if v0 < 0 then 0 else (if v0 ≤ 0 then 1 else 0))) (fun (_ : Unit) (t : State) => va_P (dC, dI) vwCl [(h0, .inr (11, [.ref h1, .ref r0, .ref r1, .ref r2, .ref r3, .ref r4, .ref r5, .ref r6, .ref r7, .ref r8, .ref r9, .ref r10, .ref r11, .ref r12, .int 0, .int 5, .long 0]))] t.heap ∧ va_K (dC, dI) vwCl [] t ∧ va_D (va_A [(h0, .inr (11, [.ref h1, .ref r0, .ref r1, .ref r2, .ref r3, .ref r4, .ref r5, .ref r6, .ref r7, .ref r8, .ref r9, .ref r10, .ref r11, .ref r12, .int 0, .int 5, .long 0])), (h1, .inr (10, [.ref r13, .int 0, .int 0, .int (-1), .int 0]))] sz) [(h0, .inr (11, [.ref h1, .ref r0, .ref r1, .ref r2, .ref r3, .ref r4, .ref r5, .ref r6, .ref r7, .ref r8, .ref r9, .ref r10, .ref r11, .ref r12, .int 0, .int 5, .long 0]))]) (va_A [(h0, .inr (11, [.ref h1, .ref r0, .ref r1, .ref r2, .ref r3, .ref r4, .ref r5, .ref r6, .ref r7, .ref r8, .ref r9, .ref r10, .ref r11, .ref r12, .int 0, .int 5, .long 0])), (h1, .inr (10, [.ref r13, .int 0, .int 0, .int (-1), .int 0]))] sz)) 0 0 (va_A [(h0, .inr (11, [.ref h1, .ref r0, .ref r1, .ref r2, .ref r3, .ref r4, .ref r5, .ref r6, .ref r7, .ref r8, .ref r9, .ref r10, .ref r11, .ref r12, .int 0, .int 5, .long 0])), (h1, .inr (10, [.ref r13, .int 0, .int 0, .int (-1), .int 0]))] sz) := by
  refine Met.ofW (cc := cX11_end) (maxL := 2) (ret := (some .boolean)) (by decide) rfl ?_
  intro p e s m args below meth c s₁ B hml hv
  obtain ⟨rfl, hsz, hP, hK, hD0⟩ := hv
  have hx := B.exec
  have hb := B.bytes
  have hr := B.returns
  have hts := atoms_spec (ws := q_X11_end) B.pre
  have hown : s.vm.findClass RX11 = some m.cls := findClass_of_methodNamed B.named
  have hlocks := B.notSynchronized
  subst hsz
  have hD := hD0.self (sz := s.heap.size)
  generalize hAe : va_A [(h0, .inr (11, [.ref h1, .ref r0, .ref r1, .ref r2, .ref r3, .ref r4, .ref r5, .ref r6, .ref r7, .ref r8, .ref r9, .ref r10, .ref r11, .ref r12, .int 0, .int 5, .long 0])), (h1, .inr (10, [.ref r13, .int 0, .int 0, .int (-1), .int 0]))] s.heap.size = A at hD ⊢
  have hA : ∀ q : Nat, s.heap.size ≤ q → A q := fun q h => by rw [← hAe]; exact Or.inr h
  have hS : va_S A s.heap s.heap [] := va_S.rf
  have hl := lv_entry ([.ref h0, .int v0]) (n := 2) (Nat.le_of_ble_eq_true rfl)
  rw [lg_entry_eq]
  generalize (lg_sl ([.ref h0, .int v0]) ++ List.replicate (2 - (lg_sl ([.ref h0, .int v0])).length) Slot.unset).toArray = ls at hl ⊢
  have hl : lv_has ls 2 [(0, .ref h0), (1, .int v0)] := hl
  refine lv_iload_n hx hb dX11_end_0 rfl (lv_at hl 1 rfl) ?_
  refine lv_if_lt (tgt := 15) hx hb dX11_end_1 (by decide) (fun c1 => ?_) (fun c1 => ?_)
  · skip
    refine lv_iconst (v := 0) hx hb dX11_end_15 (by decide) ?_
    have hP9 := hP.sub (ws' := [(h0, .inr (11, [.ref h1, .ref r0, .ref r1, .ref r2, .ref r3, .ref r4, .ref r5, .ref r6, .ref r7, .ref r8, .ref r9, .ref r10, .ref r11, .ref r12, .int 0, .int 5, .long 0]))]) [0] rfl
    have hD9 := hD.sub (ws' := [(h0, .inr (11, [.ref h1, .ref r0, .ref r1, .ref r2, .ref r3, .ref r4, .ref r5, .ref r6, .ref r7, .ref r8, .ref r9, .ref r10, .ref r11, .ref r12, .int 0, .int 5, .long 0]))]) [0] (by decide) rfl
    have hK9 := hK.sub (tys' := []) [] rfl
    exact W.zret (v := 0) hx hb hr rfl (fun t ht hW => ⟨⟨0, (), rfl, by rw [if_pos c1], by rw [ht]; exact hP9, va_K.moved hW.alike hK9, hD9⟩, hS.F ht⟩) hS.2.2 dX11_end_16
  · skip
    refine lv_iload_n hx hb dX11_end_4 rfl (lv_at hl 1 rfl) ?_
    refine lv_aload_n hx hb dX11_end_5 rfl (lv_at hl 0 rfl) ?_
    refine va_get (D := (dC, dI)) (ci := 11) (v := .ref h1) (C := RX11) (T := TX11) (N := 17) hx hb hts (fun _ h => List.mem_cons_of_mem _ (List.mem_append_left _ (List.mem_append_right _ h))) hown hK hP 0 rfl rfl 0 (by decide) (hts (.fieldLink RX11 10 "LeftArguments" "tape" "LLeftArguments$Tape;") (List.mem_cons_of_mem _ (List.mem_append_left _ (List.mem_append_left _ (List.mem_of_getElem? (i := 0) rfl))))) (fun _ h9 => h9) rfl dX11_end_6 ?_
    have hPc := hP.sub (ws' := [(h1, .inr (10, [.ref r13, .int 0, .int 0, .int (-1), .int 0]))]) [1] rfl
    have hDc := hD.sub (ws' := [(h1, .inr (10, [.ref r13, .int 0, .int 0, .int (-1), .int 0]))]) [1] (by decide) rfl
    have hKc := hK.sub (tys' := []) [] rfl
    have hFc := va_free (wc := [(h1, .inr (10, [.ref r13, .int 0, .int 0, .int (-1), .int 0]))]) hD hS hA [1] rfl
    refine va_calli (va_runV (As := []) (rest := [.int v0]) ⟨hx, hb, hml, hown, hts⟩ (k_X10_used l dC dI h1 r13  s.heap.size) (cwV 0 hts g_X11_end_0 rfl rfl rfl (by decide +kernel) ⟨Nat.le_of_ble_eq_true rfl, Nat.le_of_ble_eq_true rfl⟩) ⟨fun a U g mk q => by obtain ⟨q0, q1, qP, qK, qD⟩ := q; exact ⟨q0, q1, qP, va_K.moved (u := U) (U := U.calling g mk a) (Vm.Alike.refl U.vm) qK, qD⟩, va_recv hKc hPc (ci := 10) (q0 := 0) rfl rfl, fun U hU hW => ⟨rfl, by rw [hU], by rw [hU]; exact hPc, va_K.moved hW.alike hKc, hDc.weaken (fun _ _ _ _ => trivial)⟩⟩ rfl rfl hl.1 rfl (lv_room (Nat.le_of_ble_eq_true rfl)) dX11_end_9 ⟨Nat.le_of_ble_eq_true rfl, Nat.le_of_ble_eq_true rfl⟩) hS (fun q _ h => hFc q h) hFc (fun ra2 u t H1 locs ht hvm hw hB hz1 hk1 hS => ?_)
    obtain ⟨hP1, hK1, hD1⟩ := hB
    rw [ht] at hP1
    obtain ⟨hP, hD⟩ := va_join (wr := [(h0, .inr (11, [.ref h1, .ref r0, .ref r1, .ref r2, .ref r3, .ref r4, .ref r5, .ref r6, .ref r7, .ref r8, .ref r9, .ref r10, .ref r11, .ref r12, .int 0, .int 5, .long 0]))]) (w1 := [(h1, .inr (10, [.ref r13, .int 0, .int 0, .int (-1), .int 0]))]) hP hD [1] [0] rfl rfl (by decide) (by decide) hk1 hFc hP1 hD1
    generalize H1 = H at hP hS ⊢
    have hP : va_P (dC, dI) vwCl [(h0, .inr (11, [.ref h1, .ref r0, .ref r1, .ref r2, .ref r3, .ref r4, .ref r5, .ref r6, .ref r7, .ref r8, .ref r9, .ref r10, .ref r11, .ref r12, .int 0, .int 5, .long 0])), (h1, .inr (10, [.ref r13, .int 0, .int 0, .int (-1), .int 0]))] H := hP
    have hD : va_D A [(h0, .inr (11, [.ref h1, .ref r0, .ref r1, .ref r2, .ref r3, .ref r4, .ref r5, .ref r6, .ref r7, .ref r8, .ref r9, .ref r10, .ref r11, .ref r12, .int 0, .int 5, .long 0])), (h1, .inr (10, [.ref r13, .int 0, .int 0, .int (-1), .int 0]))] := hD
    obtain rfl : ra2 = (0 : Int32) := hw
    refine lv_icmp_le (tgt := 17) hx hb dX11_end_12 (by decide) (fun c3 => ?_) (fun c3 => ?_)
    · skip
      refine lv_aload_n hx hb dX11_end_17 rfl (lv_at hl 0 rfl) ?_
      refine va_get (D := (dC, dI)) (ci := 11) (v := .ref h1) (C := RX11) (T := TX11) (N := 17) hx hb hts (fun _ h => List.mem_cons_of_mem _ (List.mem_append_left _ (List.mem_append_right _ h))) hown hK hP 0 rfl rfl 0 (by decide) (hts (.fieldLink RX11 10 "LeftArguments" "tape" "LLeftArguments$Tape;") (List.mem_cons_of_mem _ (List.mem_append_left _ (List.mem_append_left _ (List.mem_of_getElem? (i := 0) rfl))))) (fun _ h9 => h9) rfl dX11_end_18 ?_
      refine lv_iload_n hx hb dX11_end_21 rfl (lv_at hl 1 rfl) ?_
      have hPc := hP.sub (ws' := [(h1, .inr (10, [.ref r13, .int 0, .int 0, .int (-1), .int 0]))]) [1] rfl
      have hDc := hD.sub (ws' := [(h1, .inr (10, [.ref r13, .int 0, .int 0, .int (-1), .int 0]))]) [1] (by decide) rfl
      have hKc := hK.sub (tys' := []) [] rfl
      have hFc := va_free (wc := [(h1, .inr (10, [.ref r13, .int 0, .int 0, .int (-1), .int 0]))]) hD hS hA [1] rfl
      refine va_callv (va_runV (As := [.int v0]) (rest := []) ⟨hx, hb, hml, hown, hts⟩ (k_X10_cut l dC dI h1 r13 v0  H.size) (cwV 1 hts g_X11_end_1 rfl rfl rfl (by decide +kernel) ⟨Nat.le_of_ble_eq_true rfl, Nat.le_of_ble_eq_true rfl⟩) ⟨fun a U g mk q => by obtain ⟨q0, q1, qP, qK, qD⟩ := q; exact ⟨q0, q1, qP, va_K.moved (u := U) (U := U.calling g mk a) (Vm.Alike.refl U.vm) qK, qD⟩, va_recv hKc hPc (ci := 10) (q0 := 0) rfl rfl, fun U hU hW => ⟨rfl, by rw [hU], by rw [hU]; exact hPc, va_K.moved hW.alike hKc, hDc.weaken (fun _ _ _ _ => trivial)⟩⟩ rfl rfl hl.1 rfl (lv_room (Nat.le_of_ble_eq_true rfl)) dX11_end_22 ⟨Nat.le_of_ble_eq_true rfl, Nat.le_of_ble_eq_true rfl⟩) hS (fun q _ h => hFc q h) hFc (fun u t H1 locs ht hvm hw hB hz1 hk1 hS => ?_)
      obtain ⟨hP1, hK1, hD1⟩ := hB
      rw [ht] at hP1
      obtain ⟨hP, hD⟩ := va_join (wr := [(h0, .inr (11, [.ref h1, .ref r0, .ref r1, .ref r2, .ref r3, .ref r4, .ref r5, .ref r6, .ref r7, .ref r8, .ref r9, .ref r10, .ref r11, .ref r12, .int 0, .int 5, .long 0]))]) (w1 := [(h1, .inr (10, [.ref r13, .int (if 0 < (if v0 < 0 then v0 else 0) then (if v0 < 0 then v0 else 0) else 0), .int 0, .int (-1), .int 0]))]) hP hD [1] [0] rfl rfl (by decide) (by decide) hk1 hFc hP1 hD1
      generalize H1 = H at hP hS ⊢
      have hP : va_P (dC, dI) vwCl [(h0, .inr (11, [.ref h1, .ref r0, .ref r1, .ref r2, .ref r3, .ref r4, .ref r5, .ref r6, .ref r7, .ref r8, .ref r9, .ref r10, .ref r11, .ref r12, .int 0, .int 5, .long 0])), (h1, .inr (10, [.ref r13, .int (if 0 < (if v0 < 0 then v0 else 0) then (if v0 < 0 then v0 else 0) else 0), .int 0, .int (-1), .int 0]))] H := hP
      have hD : va_D A [(h0, .inr (11, [.ref h1, .ref r0, .ref r1, .ref r2, .ref r3, .ref r4, .ref r5, .ref r6, .ref r7, .ref r8, .ref r9, .ref r10, .ref r11, .ref r12, .int 0, .int 5, .long 0])), (h1, .inr (10, [.ref r13, .int (if 0 < (if v0 < 0 then v0 else 0) then (if v0 < 0 then v0 else 0) else 0), .int 0, .int (-1), .int 0]))] := hD
      refine lv_iconst (v := 1) hx hb dX11_end_25 (by decide) ?_
      have hP9 := hP.sub (ws' := [(h0, .inr (11, [.ref h1, .ref r0, .ref r1, .ref r2, .ref r3, .ref r4, .ref r5, .ref r6, .ref r7, .ref r8, .ref r9, .ref r10, .ref r11, .ref r12, .int 0, .int 5, .long 0]))]) [0] rfl
      have hD9 := hD.sub (ws' := [(h0, .inr (11, [.ref h1, .ref r0, .ref r1, .ref r2, .ref r3, .ref r4, .ref r5, .ref r6, .ref r7, .ref r8, .ref r9, .ref r10, .ref r11, .ref r12, .int 0, .int 5, .long 0]))]) [0] (by decide) rfl
      have hK9 := hK.sub (tys' := []) [] rfl
      exact W.zret (v := 1) hx hb hr rfl (fun t ht hW => ⟨⟨1, (), rfl, by rw [if_neg c1, if_pos c3], by rw [ht]; exact hP9, va_K.moved hW.alike hK9, hD9⟩, hS.F ht⟩) hS.2.2 dX11_end_26
    · skip
      refine lv_iconst (v := 0) hx hb dX11_end_15 (by decide) ?_
      have hP9 := hP.sub (ws' := [(h0, .inr (11, [.ref h1, .ref r0, .ref r1, .ref r2, .ref r3, .ref r4, .ref r5, .ref r6, .ref r7, .ref r8, .ref r9, .ref r10, .ref r11, .ref r12, .int 0, .int 5, .long 0]))]) [0] rfl
      have hD9 := hD.sub (ws' := [(h0, .inr (11, [.ref h1, .ref r0, .ref r1, .ref r2, .ref r3, .ref r4, .ref r5, .ref r6, .ref r7, .ref r8, .ref r9, .ref r10, .ref r11, .ref r12, .int 0, .int 5, .long 0]))]) [0] (by decide) rfl
      have hK9 := hK.sub (tys' := []) [] rfl
      exact W.zret (v := 0) hx hb hr rfl (fun t ht hW => ⟨⟨0, (), rfl, by rw [if_neg c1, if_neg c3], by rw [ht]; exact hP9, va_K.moved hW.alike hK9, hD9⟩, hS.F ht⟩) hS.2.2 dX11_end_16
def q_X10_rewind : List Cond := .code yX10_rewind cX10_rewind 1 none :: (([.fieldLink RX10 19 "LeftArguments$Tape" "at" "I", .fieldLink RX10 22 "LeftArguments$Tape" "wrongAt" "I"] : List Cond) ++ wsX100)
set_option maxHeartbeats 4000000 in
set_option maxRecDepth 100000 in
theorem k_X10_rewind (l : Launch) (dC : Nat → ClassId) (dI : Nat → Nat → Nat) (h0 : Nat) (r0 : Nat) (sz : Nat) : Met l yX10_rewind q_X10_rewind ({ frames := 0, cells := 0, slots := 0, locals := 0 }) (va_Pc [.ref h0] (fun U => U.heap.size = sz ∧ va_P (dC, dI) vwCl [(h0, .inr (10, [.ref r0, .int 0, .int 0, .int (-1), .int 0]))] U.heap ∧ va_K (dC, dI) vwCl [] U ∧ va_D (fun _ => True) [(h0, .inr (10, [.ref r0, .int 0, .int 0, .int (-1), .int 0]))])) (va_Qv (fun (_ : Unit) => True) (fun (_ : Unit) (t : State) => va_P (dC, dI) vwCl [(h0, .inr (10, [.ref r0, .int 0, .int 0, .int (-1), .int 0]))] t.heap ∧ va_K (dC, dI) vwCl [] t ∧ va_D (va_A [(h0, .inr (10, [.ref r0, .int 0, .int 0, .int (-1), .int 0]))] sz) [(h0, .inr (10, [.ref r0, .int 0, .int 0, .int (-1), .int 0]))]) (va_A [(h0, .inr (10, [.ref r0, .int 0, .int 0, .int (-1), .int 0]))] sz)) 0 0 (va_A [(h0, .inr (10, [.ref r0, .int 0, .int 0, .int (-1), .int 0]))] sz) := by
  refine Met.ofW (cc := cX10_rewind) (maxL := 1) (ret := none) (by decide) rfl ?_
  intro p e s m args below meth c s₁ B hml hv
  obtain ⟨rfl, hsz, hP, hK, hD0⟩ := hv
  have hx := B.exec
  have hb := B.bytes
  have hr := B.returns
  have hts := atoms_spec (ws := q_X10_rewind) B.pre
  have hown : s.vm.findClass RX10 = some m.cls := findClass_of_methodNamed B.named
  have hlocks := B.notSynchronized
  subst hsz
  have hD := hD0.self (sz := s.heap.size)
  generalize hAe : va_A [(h0, .inr (10, [.ref r0, .int 0, .int 0, .int (-1), .int 0]))] s.heap.size = A at hD ⊢
  have hA : ∀ q : Nat, s.heap.size ≤ q → A q := fun q h => by rw [← hAe]; exact Or.inr h
  have hS : va_S A s.heap s.heap [] := va_S.rf
  have hl := lv_entry ([.ref h0]) (n := 1) (Nat.le_of_ble_eq_true rfl)
  rw [lg_entry_eq]
  generalize (lg_sl ([.ref h0]) ++ List.replicate (1 - (lg_sl ([.ref h0])).length) Slot.unset).toArray = ls at hl ⊢
  have hl : lv_has ls 1 [(0, .ref h0)] := hl
  refine lv_aload_n hx hb dX10_rewind_0 rfl (lv_at hl 0 rfl) ?_
  refine lv_iconst (v := 0) hx hb dX10_rewind_1 (by decide) ?_
  refine va_put (D := (dC, dI)) (ci := 10) (v := .int 0) (ty := .int) (C := RX10) (T := TX10) (N := 5) hx hb hts (fun _ h => List.mem_cons_of_mem _ (List.mem_append_right _ h)) tyX10 tyX10_ok nmX10 hown hK hP hD hS 0 rfl rfl 2 (by decide) (hts (.fieldLink RX10 19 "LeftArguments$Tape" "at" "I") (List.mem_cons_of_mem _ (List.mem_append_left _ (List.mem_of_getElem? (i := 0) rfl)))) (fun _ h9 => h9) rfl (by decide +kernel) rfl rfl (Nat.le_of_ble_eq_true rfl) dX10_rewind_2 (fun H locs hP hD hS => ?_)
  have hP : va_P (dC, dI) vwCl [(h0, .inr (10, [.ref r0, .int 0, .int 0, .int (-1), .int 0]))] H := hP
  have hD : va_D A [(h0, .inr (10, [.ref r0, .int 0, .int 0, .int (-1), .int 0]))] := hD
  refine lv_aload_n hx hb dX10_rewind_5 rfl (lv_at hl 0 rfl) ?_
  refine lv_iconst (v := (-1)) hx hb dX10_rewind_6 (by decide) ?_
  refine va_put (D := (dC, dI)) (ci := 10) (v := .int (-1)) (ty := .int) (C := RX10) (T := TX10) (N := 5) hx hb hts (fun _ h => List.mem_cons_of_mem _ (List.mem_append_right _ h)) tyX10 tyX10_ok nmX10 hown hK hP hD hS 0 rfl rfl 3 (by decide) (hts (.fieldLink RX10 22 "LeftArguments$Tape" "wrongAt" "I") (List.mem_cons_of_mem _ (List.mem_append_left _ (List.mem_of_getElem? (i := 1) rfl)))) (fun _ h9 => h9) rfl (by decide +kernel) rfl rfl (Nat.le_of_ble_eq_true rfl) dX10_rewind_7 (fun H locs hP hD hS => ?_)
  have hP : va_P (dC, dI) vwCl [(h0, .inr (10, [.ref r0, .int 0, .int 0, .int (-1), .int 0]))] H := hP
  have hD : va_D A [(h0, .inr (10, [.ref r0, .int 0, .int 0, .int (-1), .int 0]))] := hD
  have hP9 := hP.sub (ws' := [(h0, .inr (10, [.ref r0, .int 0, .int 0, .int (-1), .int 0]))]) [0] rfl
  have hD9 := hD.sub (ws' := [(h0, .inr (10, [.ref r0, .int 0, .int 0, .int (-1), .int 0]))]) [0] (by decide) rfl
  have hK9 := hK.sub (tys' := []) [] rfl
  exact W.vret hx hb hr (fun t ht hW => ⟨⟨(), rfl, trivial, by rw [ht]; exact hP9, va_K.moved hW.alike hK9, hD9⟩, hS.F ht⟩) hS.2.2 dX10_rewind_10
def q_X10_next : List Cond := .code yX10_next cX10_next 1 (some .int) :: (([.fieldLink RX10 19 "LeftArguments$Tape" "at" "I", .fieldLink RX10 15 "LeftArguments$Tape" "used" "I"] : List Cond) ++ wsX100)
set_option maxHeartbeats 4000000 in
set_option maxRecDepth 100000 in
theorem k_X10_next (l : Launch) (dC : Nat → ClassId) (dI : Nat → Nat → Nat) (h0 : Nat) (r0 : Nat) (sz : Nat) : Met l yX10_next q_X10_next ({ frames := 0, cells := 0, slots := 0, locals := 0 }) (va_Pc [.ref h0] (fun U => U.heap.size = sz ∧ va_P (dC, dI) vwCl [(h0, .inr (10, [.ref r0, .int 0, .int 0, .int (-1), .int 0]))] U.heap ∧ va_K (dC, dI) vwCl [] U ∧ va_D (fun _ => True) [(h0, .inr (10, [.ref r0, .int 0, .int 0, .int (-1), .int 0]))])) (va_Qi (fun (r : Int32) (_ : Unit) => r = (-1)) (fun (_ : Unit) (t : State) => va_P (dC, dI) vwCl [(h0, .inr (10, [.ref r0, .int 0, .int 0, .int (-1), .int 0]))] t.heap ∧ va_K (dC, dI) vwCl [] t ∧ va_D (va_A [(h0, .inr (10, [.ref r0, .int 0, .int 0, .int (-1), .int 0]))] sz) [(h0, .inr (10, [.ref r0, .int 0, .int 0, .int (-1), .int 0]))]) (va_A [(h0, .inr (10, [.ref r0, .int 0, .int 0, .int (-1), .int 0]))] sz)) 0 0 (va_A [(h0, .inr (10, [.ref r0, .int 0, .int 0, .int (-1), .int 0]))] sz) := by
  refine Met.ofW (cc := cX10_next) (maxL := 1) (ret := (some .int)) (by decide) rfl ?_
  intro p e s m args below meth c s₁ B hml hv
  obtain ⟨rfl, hsz, hP, hK, hD0⟩ := hv
  have hx := B.exec
  have hb := B.bytes
  have hr := B.returns
  have hts := atoms_spec (ws := q_X10_next) B.pre
  have hown : s.vm.findClass RX10 = some m.cls := findClass_of_methodNamed B.named
  have hlocks := B.notSynchronized
  subst hsz
  have hD := hD0.self (sz := s.heap.size)
  generalize hAe : va_A [(h0, .inr (10, [.ref r0, .int 0, .int 0, .int (-1), .int 0]))] s.heap.size = A at hD ⊢
  have hA : ∀ q : Nat, s.heap.size ≤ q → A q := fun q h => by rw [← hAe]; exact Or.inr h
  have hS : va_S A s.heap s.heap [] := va_S.rf
  have hl := lv_entry ([.ref h0]) (n := 1) (Nat.le_of_ble_eq_true rfl)
  rw [lg_entry_eq]
  generalize (lg_sl ([.ref h0]) ++ List.replicate (1 - (lg_sl ([.ref h0])).length) Slot.unset).toArray = ls at hl ⊢
  have hl : lv_has ls 1 [(0, .ref h0)] := hl
  refine lv_aload_n hx hb dX10_next_0 rfl (lv_at hl 0 rfl) ?_
  refine va_get (D := (dC, dI)) (ci := 10) (v := .int 0) (C := RX10) (T := TX10) (N := 5) hx hb hts (fun _ h => List.mem_cons_of_mem _ (List.mem_append_right _ h)) hown hK hP 0 rfl rfl 2 (by decide) (hts (.fieldLink RX10 19 "LeftArguments$Tape" "at" "I") (List.mem_cons_of_mem _ (List.mem_append_left _ (List.mem_of_getElem? (i := 0) rfl)))) (fun _ h9 => h9) rfl dX10_next_1 ?_
  refine lv_if_lt (tgt := 65) hx hb dX10_next_4 (by decide) (fun c => absurd c (by decide)) (fun _ => ?_)
  refine lv_aload_n hx hb dX10_next_7 rfl (lv_at hl 0 rfl) ?_
  refine va_get (D := (dC, dI)) (ci := 10) (v := .int 0) (C := RX10) (T := TX10) (N := 5) hx hb hts (fun _ h => List.mem_cons_of_mem _ (List.mem_append_right _ h)) hown hK hP 0 rfl rfl 2 (by decide) (hts (.fieldLink RX10 19 "LeftArguments$Tape" "at" "I") (List.mem_cons_of_mem _ (List.mem_append_left _ (List.mem_of_getElem? (i := 0) rfl)))) (fun _ h9 => h9) rfl dX10_next_8 ?_
  refine lv_aload_n hx hb dX10_next_11 rfl (lv_at hl 0 rfl) ?_
  refine va_get (D := (dC, dI)) (ci := 10) (v := .int 0) (C := RX10) (T := TX10) (N := 5) hx hb hts (fun _ h => List.mem_cons_of_mem _ (List.mem_append_right _ h)) hown hK hP 0 rfl rfl 1 (by decide) (hts (.fieldLink RX10 15 "LeftArguments$Tape" "used" "I") (List.mem_cons_of_mem _ (List.mem_append_left _ (List.mem_of_getElem? (i := 1) rfl)))) (fun _ h9 => h9) rfl dX10_next_12 ?_
  refine lv_icmp_ge (tgt := 65) hx hb dX10_next_15 (by decide) (fun _ => ?_) (fun c => absurd (by decide) c)
  refine lv_iconst (v := (-1)) hx hb dX10_next_65 (by decide) ?_
  have hP9 := hP.sub (ws' := [(h0, .inr (10, [.ref r0, .int 0, .int 0, .int (-1), .int 0]))]) [0] rfl
  have hD9 := hD.sub (ws' := [(h0, .inr (10, [.ref r0, .int 0, .int 0, .int (-1), .int 0]))]) [0] (by decide) rfl
  have hK9 := hK.sub (tys' := []) [] rfl
  exact W.iret (v := (-1)) hx hb hr (fun t ht hW => ⟨⟨(-1), (), rfl, rfl, by rw [ht]; exact hP9, va_K.moved hW.alike hK9, hD9⟩, hS.F ht⟩) hS.2.2 dX10_next_66
def q_X10_wrongHere : List Cond := .code yX10_wrongHere cX10_wrongHere 1 (some .boolean) :: (([.fieldLink RX10 19 "LeftArguments$Tape" "at" "I", .fieldLink RX10 22 "LeftArguments$Tape" "wrongAt" "I"] : List Cond) ++ wsX100)
set_option maxHeartbeats 4000000 in
set_option maxRecDepth 100000 in
theorem k_X10_wrongHere (l : Launch) (dC : Nat → ClassId) (dI : Nat → Nat → Nat) (h0 : Nat) (r0 : Nat) (sz : Nat) : Met l yX10_wrongHere q_X10_wrongHere ({ frames := 0, cells := 0, slots := 0, locals := 0 }) (va_Pc [.ref h0] (fun U => U.heap.size = sz ∧ va_P (dC, dI) vwCl [(h0, .inr (10, [.ref r0, .int 0, .int 0, .int (-1), .int 0]))] U.heap ∧ va_K (dC, dI) vwCl [] U ∧ va_D (fun _ => True) [(h0, .inr (10, [.ref r0, .int 0, .int 0, .int (-1), .int 0]))])) (va_Qi (fun (r : Int32) (_ : Unit) => r = 0) (fun (_ : Unit) (t : State) => va_P (dC, dI) vwCl [(h0, .inr (10, [.ref r0, .int 0, .int 0, .int 0, .int 0]))] t.heap ∧ va_K (dC, dI) vwCl [] t ∧ va_D (va_A [(h0, .inr (10, [.ref r0, .int 0, .int 0, .int (-1), .int 0]))] sz) [(h0, .inr (10, [.ref r0, .int 0, .int 0, .int 0, .int 0]))]) (va_A [(h0, .inr (10, [.ref r0, .int 0, .int 0, .int (-1), .int 0]))] sz)) 0 0 (va_A [(h0, .inr (10, [.ref r0, .int 0, .int 0, .int (-1), .int 0]))] sz) := by
  refine Met.ofW (cc := cX10_wrongHere) (maxL := 1) (ret := (some .boolean)) (by decide) rfl ?_
  intro p e s m args below meth c s₁ B hml hv
  obtain ⟨rfl, hsz, hP, hK, hD0⟩ := hv
  have hx := B.exec
  have hb := B.bytes
  have hr := B.returns
  have hts := atoms_spec (ws := q_X10_wrongHere) B.pre
  have hown : s.vm.findClass RX10 = some m.cls := findClass_of_methodNamed B.named
  have hlocks := B.notSynchronized
  subst hsz
  have hD := hD0.self (sz := s.heap.size)
  generalize hAe : va_A [(h0, .inr (10, [.ref r0, .int 0, .int 0, .int (-1), .int 0]))] s.heap.size = A at hD ⊢
  have hA : ∀ q : Nat, s.heap.size ≤ q → A q := fun q h => by rw [← hAe]; exact Or.inr h
  have hS : va_S A s.heap s.heap [] := va_S.rf
  have hl := lv_entry ([.ref h0]) (n := 1) (Nat.le_of_ble_eq_true rfl)
  rw [lg_entry_eq]
  generalize (lg_sl ([.ref h0]) ++ List.replicate (1 - (lg_sl ([.ref h0])).length) Slot.unset).toArray = ls at hl ⊢
  have hl : lv_has ls 1 [(0, .ref h0)] := hl
  refine lv_aload_n hx hb dX10_wrongHere_0 rfl (lv_at hl 0 rfl) ?_
  refine lv_aload_n hx hb dX10_wrongHere_1 rfl (lv_at hl 0 rfl) ?_
  refine va_get (D := (dC, dI)) (ci := 10) (v := .int 0) (C := RX10) (T := TX10) (N := 5) hx hb hts (fun _ h => List.mem_cons_of_mem _ (List.mem_append_right _ h)) hown hK hP 0 rfl rfl 2 (by decide) (hts (.fieldLink RX10 19 "LeftArguments$Tape" "at" "I") (List.mem_cons_of_mem _ (List.mem_append_left _ (List.mem_of_getElem? (i := 0) rfl)))) (fun _ h9 => h9) rfl dX10_wrongHere_2 ?_
  refine va_put (D := (dC, dI)) (ci := 10) (v := .int 0) (ty := .int) (C := RX10) (T := TX10) (N := 5) hx hb hts (fun _ h => List.mem_cons_of_mem _ (List.mem_append_right _ h)) tyX10 tyX10_ok nmX10 hown hK hP hD hS 0 rfl rfl 3 (by decide) (hts (.fieldLink RX10 22 "LeftArguments$Tape" "wrongAt" "I") (List.mem_cons_of_mem _ (List.mem_append_left _ (List.mem_of_getElem? (i := 1) rfl)))) (fun _ h9 => h9) rfl (by decide +kernel) rfl rfl (Nat.le_of_ble_eq_true rfl) dX10_wrongHere_5 (fun H locs hP hD hS => ?_)
  have hP : va_P (dC, dI) vwCl [(h0, .inr (10, [.ref r0, .int 0, .int 0, .int 0, .int 0]))] H := hP
  have hD : va_D A [(h0, .inr (10, [.ref r0, .int 0, .int 0, .int 0, .int 0]))] := hD
  refine lv_iconst (v := 0) hx hb dX10_wrongHere_8 (by decide) ?_
  have hP9 := hP.sub (ws' := [(h0, .inr (10, [.ref r0, .int 0, .int 0, .int 0, .int 0]))]) [0] rfl
  have hD9 := hD.sub (ws' := [(h0, .inr (10, [.ref r0, .int 0, .int 0, .int 0, .int 0]))]) [0] (by decide) rfl
  have hK9 := hK.sub (tys' := []) [] rfl
  exact W.zret (v := 0) hx hb hr rfl (fun t ht hW => ⟨⟨0, (), rfl, rfl, by rw [ht]; exact hP9, va_K.moved hW.alike hK9, hD9⟩, hS.F ht⟩) hS.2.2 dX10_wrongHere_9
def q_X10_take : List Cond := .code yX10_take cX10_take 2 (some .boolean) :: (([.code yX10_next cX10_next 1 (some .int), .fieldLink RX10 19 "LeftArguments$Tape" "at" "I", .fieldLink RX10 15 "LeftArguments$Tape" "used" "I", .initialized RX10, .instanceMethod yX10_next, .selects RX10 yX10_next yX10_next, .methodLink RX10 37 yX10_next, .code yX10_wrongHere cX10_wrongHere 1 (some .boolean), .fieldLink RX10 22 "LeftArguments$Tape" "wrongAt" "I", .instanceMethod yX10_wrongHere, .selects RX10 yX10_wrongHere yX10_wrongHere, .methodLink RX10 41 yX10_wrongHere] : List Cond) ++ wsX100)
set_option maxRecDepth 20000 in
theorem g_X10_take_0 : GoodIn q_X10_take (wsV RX10 37 RX10 yX10_next q_X10_next) := goodIn_app (goodIn_r _ [7, 5, 6, 4] (by decide +kernel) (by decide +kernel)) (goodIn_ca (goodIn_r (.code yX10_next cX10_next 1 (some .int) :: [.fieldLink RX10 19 "LeftArguments$Tape" "at" "I", .fieldLink RX10 15 "LeftArguments$Tape" "used" "I"]) [1, 2, 3] (by decide +kernel) (by decide +kernel)) (goodIn_sub (fun _ h => List.mem_cons_of_mem _ (List.mem_append_right _ h)) gwX10))
set_option maxRecDepth 20000 in
theorem g_X10_take_1 : GoodIn q_X10_take (wsV RX10 41 RX10 yX10_wrongHere q_X10_wrongHere) := goodIn_app (goodIn_r _ [12, 10, 11, 4] (by decide +kernel) (by decide +kernel)) (goodIn_ca (goodIn_r (.code yX10_wrongHere cX10_wrongHere 1 (some .boolean) :: [.fieldLink RX10 19 "LeftArguments$Tape" "at" "I", .fieldLink RX10 22 "LeftArguments$Tape" "wrongAt" "I"]) [8, 2, 9] (by decide +kernel) (by decide +kernel)) (goodIn_sub (fun _ h => List.mem_cons_of_mem _ (List.mem_append_right _ h)) gwX10))
set_option maxHeartbeats 4000000 in
set_option maxRecDepth 100000 in
theorem k_X10_take (l : Launch) (dC : Nat → ClassId) (dI : Nat → Nat → Nat) (h0 : Nat) (r0 : Nat) (sz : Nat) : Met l yX10_take q_X10_take ({ frames := 1, cells := 0, slots := 0, locals := 20 }) (va_Pc [.ref h0, .int 121] (fun U => U.heap.size = sz ∧ va_P (dC, dI) vwCl [(h0, .inr (10, [.ref r0, .int 0, .int 0, .int (-1), .int 0]))] U.heap ∧ va_K (dC, dI) vwCl [] U ∧ va_D (fun _ => True) [(h0, .inr (10, [.ref r0, .int 0, .int 0, .int (-1), .int 0]))])) (va_Qi (fun (r : Int32) (_ : Unit) => r = 0) (fun (_ : Unit) (t : State) => va_P (dC, dI) vwCl [(h0, .inr (10, [.ref r0, .int 0, .int 0, .int 0, .int 0]))] t.heap ∧ va_K (dC, dI) vwCl [] t ∧ va_D (va_A [(h0, .inr (10, [.ref r0, .int 0, .int 0, .int (-1), .int 0]))] sz) [(h0, .inr (10, [.ref r0, .int 0, .int 0, .int 0, .int 0]))]) (va_A [(h0, .inr (10, [.ref r0, .int 0, .int 0, .int (-1), .int 0]))] sz)) 0 0 (va_A [(h0, .inr (10, [.ref r0, .int 0, .int 0, .int (-1), .int 0]))] sz) := by
  refine Met.ofW (cc := cX10_take) (maxL := 2) (ret := (some .boolean)) (by decide) rfl ?_
  intro p e s m args below meth c s₁ B hml hv
  obtain ⟨rfl, hsz, hP, hK, hD0⟩ := hv
  have hx := B.exec
  have hb := B.bytes
  have hr := B.returns
  have hts := atoms_spec (ws := q_X10_take) B.pre
  have hown : s.vm.findClass RX10 = some m.cls := findClass_of_methodNamed B.named
  have hlocks := B.notSynchronized
  subst hsz
  have hD := hD0.self (sz := s.heap.size)
  generalize hAe : va_A [(h0, .inr (10, [.ref r0, .int 0, .int 0, .int (-1), .int 0]))] s.heap.size = A at hD ⊢
  have hA : ∀ q : Nat, s.heap.size ≤ q → A q := fun q h => by rw [← hAe]; exact Or.inr h
  have hS : va_S A s.heap s.heap [] := va_S.rf
  have hl := lv_entry ([.ref h0, .int 121]) (n := 2) (Nat.le_of_ble_eq_true rfl)
  rw [lg_entry_eq]
  generalize (lg_sl ([.ref h0, .int 121]) ++ List.replicate (2 - (lg_sl ([.ref h0, .int 121])).length) Slot.unset).toArray = ls at hl ⊢
  have hl : lv_has ls 2 [(0, .ref h0), (1, .int 121)] := hl
  refine lv_aload_n hx hb dX10_take_0 rfl (lv_at hl 0 rfl) ?_
  have hPc := hP.sub (ws' := [(h0, .inr (10, [.ref r0, .int 0, .int 0, .int (-1), .int 0]))]) [0] rfl
  have hDc := hD.sub (ws' := [(h0, .inr (10, [.ref r0, .int 0, .int 0, .int (-1), .int 0]))]) [0] (by decide) rfl
  have hKc := hK.sub (tys' := []) [] rfl
  have hFc := va_free (wc := [(h0, .inr (10, [.ref r0, .int 0, .int 0, .int (-1), .int 0]))]) hD hS hA [0] rfl
  refine va_calli (va_runV (As := []) (rest := []) ⟨hx, hb, hml, hown, hts⟩ (k_X10_next l dC dI h0 r0  s.heap.size) (cwV 0 hts g_X10_take_0 rfl rfl rfl (by decide +kernel) ⟨Nat.le_of_ble_eq_true rfl, Nat.le_of_ble_eq_true rfl⟩) ⟨fun a U g mk q => by obtain ⟨q0, q1, qP, qK, qD⟩ := q; exact ⟨q0, q1, qP, va_K.moved (u := U) (U := U.calling g mk a) (Vm.Alike.refl U.vm) qK, qD⟩, va_recv hKc hPc (ci := 10) (q0 := 0) rfl rfl, fun U hU hW => ⟨rfl, by rw [hU], by rw [hU]; exact hPc, va_K.moved hW.alike hKc, hDc.weaken (fun _ _ _ _ => trivial)⟩⟩ rfl rfl hl.1 rfl (lv_room (Nat.le_of_ble_eq_true rfl)) dX10_take_1 ⟨Nat.le_of_ble_eq_true rfl, Nat.le_of_ble_eq_true rfl⟩) hS (fun q _ h => hFc q h) hFc (fun ra1 u t H1 locs ht hvm hw hB hz1 hk1 hS => ?_)
  obtain ⟨hP1, hK1, hD1⟩ := hB
  rw [ht] at hP1
  obtain ⟨hP, hD⟩ := va_join (wr := []) (w1 := [(h0, .inr (10, [.ref r0, .int 0, .int 0, .int (-1), .int 0]))]) hP hD [0] [] rfl rfl (by decide) (by decide) hk1 hFc hP1 hD1
  generalize H1 = H at hP hS ⊢
  have hP : va_P (dC, dI) vwCl [(h0, .inr (10, [.ref r0, .int 0, .int 0, .int (-1), .int 0]))] H := hP
  have hD : va_D A [(h0, .inr (10, [.ref r0, .int 0, .int 0, .int (-1), .int 0]))] := hD
  obtain rfl : ra1 = ((-1) : Int32) := hw
  refine lv_iload_n hx hb dX10_take_4 rfl (lv_at hl 1 rfl) ?_
  refine lv_icmp_eq (tgt := 13) hx hb dX10_take_5 (by decide) (fun c => absurd c (by decide)) (fun _ => ?_)
  refine lv_aload_n hx hb dX10_take_8 rfl (lv_at hl 0 rfl) ?_
  have hPc := hP.sub (ws' := [(h0, .inr (10, [.ref r0, .int 0, .int 0, .int (-1), .int 0]))]) [0] rfl
  have hDc := hD.sub (ws' := [(h0, .inr (10, [.ref r0, .int 0, .int 0, .int (-1), .int 0]))]) [0] (by decide) rfl
  have hKc := hK.sub (tys' := []) [] rfl
  have hFc := va_free (wc := [(h0, .inr (10, [.ref r0, .int 0, .int 0, .int (-1), .int 0]))]) hD hS hA [0] rfl
  refine va_calli (va_runV (As := []) (rest := []) ⟨hx, hb, hml, hown, hts⟩ (k_X10_wrongHere l dC dI h0 r0  H.size) (cwV 0 hts g_X10_take_1 rfl rfl rfl (by decide +kernel) ⟨Nat.le_of_ble_eq_true rfl, Nat.le_of_ble_eq_true rfl⟩) ⟨fun a U g mk q => by obtain ⟨q0, q1, qP, qK, qD⟩ := q; exact ⟨q0, q1, qP, va_K.moved (u := U) (U := U.calling g mk a) (Vm.Alike.refl U.vm) qK, qD⟩, va_recv hKc hPc (ci := 10) (q0 := 0) rfl rfl, fun U hU hW => ⟨rfl, by rw [hU], by rw [hU]; exact hPc, va_K.moved hW.alike hKc, hDc.weaken (fun _ _ _ _ => trivial)⟩⟩ rfl rfl hl.1 rfl (lv_room (Nat.le_of_ble_eq_true rfl)) dX10_take_9 ⟨Nat.le_of_ble_eq_true rfl, Nat.le_of_ble_eq_true rfl⟩) hS (fun q _ h => hFc q h) hFc (fun ra2 u t H1 locs ht hvm hw hB hz1 hk1 hS => ?_)
  obtain ⟨hP1, hK1, hD1⟩ := hB
  rw [ht] at hP1
  obtain ⟨hP, hD⟩ := va_join (wr := []) (w1 := [(h0, .inr (10, [.ref r0, .int 0, .int 0, .int 0, .int 0]))]) hP hD [0] [] rfl rfl (by decide) (by decide) hk1 hFc hP1 hD1
  generalize H1 = H at hP hS ⊢
  have hP : va_P (dC, dI) vwCl [(h0, .inr (10, [.ref r0, .int 0, .int 0, .int 0, .int 0]))] H := hP
  have hD : va_D A [(h0, .inr (10, [.ref r0, .int 0, .int 0, .int 0, .int 0]))] := hD
  obtain rfl : ra2 = (0 : Int32) := hw
  have hP9 := hP.sub (ws' := [(h0, .inr (10, [.ref r0, .int 0, .int 0, .int 0, .int 0]))]) [0] rfl
  have hD9 := hD.sub (ws' := [(h0, .inr (10, [.ref r0, .int 0, .int 0, .int 0, .int 0]))]) [0] (by decide) rfl
  have hK9 := hK.sub (tys' := []) [] rfl
  exact W.zret (v := 0) hx hb hr rfl (fun t ht hW => ⟨⟨0, (), rfl, rfl, by rw [ht]; exact hP9, va_K.moved hW.alike hK9, hD9⟩, hS.F ht⟩) hS.2.2 dX10_take_12
def q_X3_readClause : List Cond := .code yX3_readClause cX3_readClause 4 (some .boolean) :: (([.fieldLink RX3 19 "LeftArguments$LawReader" "tape" "LLeftArguments$Tape;", .code yX10_take cX10_take 2 (some .boolean), .code yX10_next cX10_next 1 (some .int), .fieldLink RX10 19 "LeftArguments$Tape" "at" "I", .fieldLink RX10 15 "LeftArguments$Tape" "used" "I", .initialized RX10, .instanceMethod yX10_next, .selects RX10 yX10_next yX10_next, .methodLink RX10 37 yX10_next, .code yX10_wrongHere cX10_wrongHere 1 (some .boolean), .fieldLink RX10 22 "LeftArguments$Tape" "wrongAt" "I", .instanceMethod yX10_wrongHere, .selects RX10 yX10_wrongHere yX10_wrongHere, .methodLink RX10 41 yX10_wrongHere, .instanceMethod yX10_take, .selects RX10 yX10_take yX10_take, .methodLink RX3 51 yX10_take] : List Cond) ++ wsX30 ++ wsX100)
set_option maxRecDepth 20000 in
theorem g_X3_readClause_0 : GoodIn q_X3_readClause (wsV RX3 51 RX10 yX10_take q_X10_take) := goodIn_app (goodIn_r _ [17, 15, 16, 6] (by decide +kernel) (by decide +kernel)) (goodIn_ca (goodIn_r (.code yX10_take cX10_take 2 (some .boolean) :: [.code yX10_next cX10_next 1 (some .int), .fieldLink RX10 19 "LeftArguments$Tape" "at" "I", .fieldLink RX10 15 "LeftArguments$Tape" "used" "I", .initialized RX10, .instanceMethod yX10_next, .selects RX10 yX10_next yX10_next, .methodLink RX10 37 yX10_next, .code yX10_wrongHere cX10_wrongHere 1 (some .boolean), .fieldLink RX10 22 "LeftArguments$Tape" "wrongAt" "I", .instanceMethod yX10_wrongHere, .selects RX10 yX10_wrongHere yX10_wrongHere, .methodLink RX10 41 yX10_wrongHere]) [2, 3, 4, 5, 6, 7, 8, 9, 10, 11, 12, 13, 14] (by decide +kernel) (by decide +kernel)) (goodIn_sub (fun _ h => List.mem_cons_of_mem _ (List.mem_append_right _ h)) gwX10))
set_option maxHeartbeats 4000000 in
set_option maxRecDepth 100000 in
theorem k_X3_readClause (l : Launch) (dC : Nat → ClassId) (dI : Nat → Nat → Nat) (h0 h1 : Nat) (r0 r1 : Nat) (sz : Nat) : Met l yX3_readClause q_X3_readClause ({ frames := 2, cells := 0, slots := 0, locals := 41 }) (va_Pc [.ref h0] (fun U => U.heap.size = sz ∧ va_P (dC, dI) vwCl [(h0, .inr (3, [.ref h1, .ref r0, .int 0])), (h1, .inr (10, [.ref r1, .int 0, .int 0, .int (-1), .int 0]))] U.heap ∧ va_K (dC, dI) vwCl [] U ∧ va_D (fun _ => True) [(h0, .inr (3, [.ref h1, .ref r0, .int 0])), (h1, .inr (10, [.ref r1, .int 0, .int 0, .int (-1), .int 0]))])) (va_Qi (fun (r : Int32) (_ : Unit) => r = 0) (fun (_ : Unit) (t : State) => va_P (dC, dI) vwCl [(h0, .inr (3, [.ref h1, .ref r0, .int 0])), (h1, .inr (10, [.ref r1, .int 0, .int 0, .int 0, .int 0]))] t.heap ∧ va_K (dC, dI) vwCl [] t ∧ va_D (va_A [(h0, .inr (3, [.ref h1, .ref r0, .int 0])), (h1, .inr (10, [.ref r1, .int 0, .int 0, .int (-1), .int 0]))] sz) [(h0, .inr (3, [.ref h1, .ref r0, .int 0])), (h1, .inr (10, [.ref r1, .int 0, .int 0, .int 0, .int 0]))]) (va_A [(h0, .inr (3, [.ref h1, .ref r0, .int 0])), (h1, .inr (10, [.ref r1, .int 0, .int 0, .int (-1), .int 0]))] sz)) 0 0 (va_A [(h0, .inr (3, [.ref h1, .ref r0, .int 0])), (h1, .inr (10, [.ref r1, .int 0, .int 0, .int (-1), .int 0]))] sz) := by
  refine Met.ofW (cc := cX3_readClause) (maxL := 4) (ret := (some .boolean)) (by decide) rfl ?_
  intro p e s m args below meth c s₁ B hml hv
  obtain ⟨rfl, hsz, hP, hK, hD0⟩ := hv
  have hx := B.exec
  have hb := B.bytes
  have hr := B.returns
  have hts := atoms_spec (ws := q_X3_readClause) B.pre
  have hown : s.vm.findClass RX3 = some m.cls := findClass_of_methodNamed B.named
  have hlocks := B.notSynchronized
  subst hsz
  have hD := hD0.self (sz := s.heap.size)
  generalize hAe : va_A [(h0, .inr (3, [.ref h1, .ref r0, .int 0])), (h1, .inr (10, [.ref r1, .int 0, .int 0, .int (-1), .int 0]))] s.heap.size = A at hD ⊢
  have hA : ∀ q : Nat, s.heap.size ≤ q → A q := fun q h => by rw [← hAe]; exact Or.inr h
  have hS : va_S A s.heap s.heap [] := va_S.rf
  have hl := lv_entry ([.ref h0]) (n := 4) (Nat.le_of_ble_eq_true rfl)
  rw [lg_entry_eq]
  generalize (lg_sl ([.ref h0]) ++ List.replicate (4 - (lg_sl ([.ref h0])).length) Slot.unset).toArray = ls at hl ⊢
  have hl : lv_has ls 4 [(0, .ref h0)] := hl
  refine lv_aload_n hx hb dX3_readClause_0 rfl (lv_at hl 0 rfl) ?_
  refine va_get (D := (dC, dI)) (ci := 3) (v := .ref h1) (C := RX3) (T := TX3) (N := 3) hx hb hts (fun _ h => List.mem_cons_of_mem _ (List.mem_append_left _ (List.mem_append_right _ h))) hown hK hP 0 rfl rfl 0 (by decide) (hts (.fieldLink RX3 19 "LeftArguments$LawReader" "tape" "LLeftArguments$Tape;") (List.mem_cons_of_mem _ (List.mem_append_left _ (List.mem_append_left _ (List.mem_of_getElem? (i := 0) rfl))))) (fun _ h9 => h9) rfl dX3_readClause_1 ?_
  refine lv_bipush (v := 121) hx hb dX3_readClause_4 (by decide) ?_
  have hPc := hP.sub (ws' := [(h1, .inr (10, [.ref r1, .int 0, .int 0, .int (-1), .int 0]))]) [1] rfl
  have hDc := hD.sub (ws' := [(h1, .inr (10, [.ref r1, .int 0, .int 0, .int (-1), .int 0]))]) [1] (by decide) rfl
  have hKc := hK.sub (tys' := []) [] rfl
  have hFc := va_free (wc := [(h1, .inr (10, [.ref r1, .int 0, .int 0, .int (-1), .int 0]))]) hD hS hA [1] rfl
  refine va_calli (va_runV (As := [.int 121]) (rest := []) ⟨hx, hb, hml, hown, hts⟩ (k_X10_take l dC dI h1 r1  s.heap.size) (cwV 1 hts g_X3_readClause_0 rfl rfl rfl (by decide +kernel) ⟨Nat.le_of_ble_eq_true rfl, Nat.le_of_ble_eq_true rfl⟩) ⟨fun a U g mk q => by obtain ⟨q0, q1, qP, qK, qD⟩ := q; exact ⟨q0, q1, qP, va_K.moved (u := U) (U := U.calling g mk a) (Vm.Alike.refl U.vm) qK, qD⟩, va_recv hKc hPc (ci := 10) (q0 := 0) rfl rfl, fun U hU hW => ⟨rfl, by rw [hU], by rw [hU]; exact hPc, va_K.moved hW.alike hKc, hDc.weaken (fun _ _ _ _ => trivial)⟩⟩ rfl rfl hl.1 rfl (lv_room (Nat.le_of_ble_eq_true rfl)) dX3_readClause_6 ⟨Nat.le_of_ble_eq_true rfl, Nat.le_of_ble_eq_true rfl⟩) hS (fun q _ h => hFc q h) hFc (fun ra1 u t H1 locs ht hvm hw hB hz1 hk1 hS => ?_)
  obtain ⟨hP1, hK1, hD1⟩ := hB
  rw [ht] at hP1
  obtain ⟨hP, hD⟩ := va_join (wr := [(h0, .inr (3, [.ref h1, .ref r0, .int 0]))]) (w1 := [(h1, .inr (10, [.ref r1, .int 0, .int 0, .int 0, .int 0]))]) hP hD [1] [0] rfl rfl (by decide) (by decide) hk1 hFc hP1 hD1
  generalize H1 = H at hP hS ⊢
  have hP : va_P (dC, dI) vwCl [(h0, .inr (3, [.ref h1, .ref r0, .int 0])), (h1, .inr (10, [.ref r1, .int 0, .int 0, .int 0, .int 0]))] H := hP
  have hD : va_D A [(h0, .inr (3, [.ref h1, .ref r0, .int 0])), (h1, .inr (10, [.ref r1, .int 0, .int 0, .int 0, .int 0]))] := hD
  obtain rfl : ra1 = (0 : Int32) := hw
  refine lv_if_eq (tgt := 24) hx hb dX3_readClause_9 (by decide) (fun _ => ?_) (fun c => absurd (by decide) c)
  refine lv_iconst (v := 0) hx hb dX3_readClause_24 (by decide) ?_
  have hP9 := hP.sub (ws' := [(h0, .inr (3, [.ref h1, .ref r0, .int 0])), (h1, .inr (10, [.ref r1, .int 0, .int 0, .int 0, .int 0]))]) [0, 1] rfl
  have hD9 := hD.sub (ws' := [(h0, .inr (3, [.ref h1, .ref r0, .int 0])), (h1, .inr (10, [.ref r1, .int 0, .int 0, .int 0, .int 0]))]) [0, 1] (by decide) rfl
  have hK9 := hK.sub (tys' := []) [] rfl
  exact W.zret (v := 0) hx hb hr rfl (fun t ht hW => ⟨⟨0, (), rfl, rfl, by rw [ht]; exact hP9, va_K.moved hW.alike hK9, hD9⟩, hS.F ht⟩) hS.2.2 dX3_readClause_25
def q_X10_wrongAt : List Cond := .code yX10_wrongAt cX10_wrongAt 1 (some .int) :: (([.fieldLink RX10 22 "LeftArguments$Tape" "wrongAt" "I"] : List Cond) ++ wsX100)
set_option maxHeartbeats 4000000 in
set_option maxRecDepth 100000 in
theorem k_X10_wrongAt (l : Launch) (dC : Nat → ClassId) (dI : Nat → Nat → Nat) (h0 : Nat) (r0 : Nat) (sz : Nat) : Met l yX10_wrongAt q_X10_wrongAt ({ frames := 0, cells := 0, slots := 0, locals := 0 }) (va_Pc [.ref h0] (fun U => U.heap.size = sz ∧ va_P (dC, dI) vwCl [(h0, .inr (10, [.ref r0, .int 0, .int 0, .int 0, .int 0]))] U.heap ∧ va_K (dC, dI) vwCl [] U ∧ va_D (fun _ => True) [(h0, .inr (10, [.ref r0, .int 0, .int 0, .int 0, .int 0]))])) (va_Qi (fun (r : Int32) (_ : Unit) => r = 0) (fun (_ : Unit) (t : State) => va_P (dC, dI) vwCl [(h0, .inr (10, [.ref r0, .int 0, .int 0, .int 0, .int 0]))] t.heap ∧ va_K (dC, dI) vwCl [] t ∧ va_D (va_A [(h0, .inr (10, [.ref r0, .int 0, .int 0, .int 0, .int 0]))] sz) [(h0, .inr (10, [.ref r0, .int 0, .int 0, .int 0, .int 0]))]) (va_A [(h0, .inr (10, [.ref r0, .int 0, .int 0, .int 0, .int 0]))] sz)) 0 0 (va_A [(h0, .inr (10, [.ref r0, .int 0, .int 0, .int 0, .int 0]))] sz) := by
  refine Met.ofW (cc := cX10_wrongAt) (maxL := 1) (ret := (some .int)) (by decide) rfl ?_
  intro p e s m args below meth c s₁ B hml hv
  obtain ⟨rfl, hsz, hP, hK, hD0⟩ := hv
  have hx := B.exec
  have hb := B.bytes
  have hr := B.returns
  have hts := atoms_spec (ws := q_X10_wrongAt) B.pre
  have hown : s.vm.findClass RX10 = some m.cls := findClass_of_methodNamed B.named
  have hlocks := B.notSynchronized
  subst hsz
  have hD := hD0.self (sz := s.heap.size)
  generalize hAe : va_A [(h0, .inr (10, [.ref r0, .int 0, .int 0, .int 0, .int 0]))] s.heap.size = A at hD ⊢
  have hA : ∀ q : Nat, s.heap.size ≤ q → A q := fun q h => by rw [← hAe]; exact Or.inr h
  have hS : va_S A s.heap s.heap [] := va_S.rf
  have hl := lv_entry ([.ref h0]) (n := 1) (Nat.le_of_ble_eq_true rfl)
  rw [lg_entry_eq]
  generalize (lg_sl ([.ref h0]) ++ List.replicate (1 - (lg_sl ([.ref h0])).length) Slot.unset).toArray = ls at hl ⊢
  have hl : lv_has ls 1 [(0, .ref h0)] := hl
  refine lv_aload_n hx hb dX10_wrongAt_0 rfl (lv_at hl 0 rfl) ?_
  refine va_get (D := (dC, dI)) (ci := 10) (v := .int 0) (C := RX10) (T := TX10) (N := 5) hx hb hts (fun _ h => List.mem_cons_of_mem _ (List.mem_append_right _ h)) hown hK hP 0 rfl rfl 3 (by decide) (hts (.fieldLink RX10 22 "LeftArguments$Tape" "wrongAt" "I") (List.mem_cons_of_mem _ (List.mem_append_left _ (List.mem_of_getElem? (i := 0) rfl)))) (fun _ h9 => h9) rfl dX10_wrongAt_1 ?_
  have hP9 := hP.sub (ws' := [(h0, .inr (10, [.ref r0, .int 0, .int 0, .int 0, .int 0]))]) [0] rfl
  have hD9 := hD.sub (ws' := [(h0, .inr (10, [.ref r0, .int 0, .int 0, .int 0, .int 0]))]) [0] (by decide) rfl
  have hK9 := hK.sub (tys' := []) [] rfl
  exact W.iret (v := 0) hx hb hr (fun t ht hW => ⟨⟨0, (), rfl, rfl, by rw [ht]; exact hP9, va_K.moved hW.alike hK9, hD9⟩, hS.F ht⟩) hS.2.2 dX10_wrongAt_4
def q_X3_read : List Cond := .code yX3_read cX3_read 2 (some .int) :: (([.fieldLink RX3 19 "LeftArguments$LawReader" "tape" "LLeftArguments$Tape;", .code yX10_rewind cX10_rewind 1 none, .fieldLink RX10 19 "LeftArguments$Tape" "at" "I", .fieldLink RX10 22 "LeftArguments$Tape" "wrongAt" "I", .initialized RX10, .instanceMethod yX10_rewind, .selects RX10 yX10_rewind yX10_rewind, .methodLink RX3 35 yX10_rewind, .fieldLink RX3 15 "LeftArguments$LawReader" "used" "I", .code yX3_readClause cX3_readClause 4 (some .boolean), .code yX10_take cX10_take 2 (some .boolean), .code yX10_next cX10_next 1 (some .int), .fieldLink RX10 15 "LeftArguments$Tape" "used" "I", .instanceMethod yX10_next, .selects RX10 yX10_next yX10_next, .methodLink RX10 37 yX10_next, .code yX10_wrongHere cX10_wrongHere 1 (some .boolean), .instanceMethod yX10_wrongHere, .selects RX10 yX10_wrongHere yX10_wrongHere, .methodLink RX10 41 yX10_wrongHere, .instanceMethod yX10_take, .selects RX10 yX10_take yX10_take, .methodLink RX3 51 yX10_take, .initialized RX3, .instanceMethod yX3_readClause, .selects RX3 yX3_readClause yX3_readClause, .methodLink RX3 40 yX3_readClause, .code yX10_wrongAt cX10_wrongAt 1 (some .int), .instanceMethod yX10_wrongAt, .selects RX10 yX10_wrongAt yX10_wrongAt, .methodLink RX3 44 yX10_wrongAt] : List Cond) ++ wsX30 ++ wsX100)
set_option maxRecDepth 20000 in
theorem g_X3_read_0 : GoodIn q_X3_read (wsV RX3 35 RX10 yX10_rewind q_X10_rewind) := goodIn_app (goodIn_r _ [8, 6, 7, 5] (by decide +kernel) (by decide +kernel)) (goodIn_ca (goodIn_r (.code yX10_rewind cX10_rewind 1 none :: [.fieldLink RX10 19 "LeftArguments$Tape" "at" "I", .fieldLink RX10 22 "LeftArguments$Tape" "wrongAt" "I"]) [2, 3, 4] (by decide +kernel) (by decide +kernel)) (goodIn_sub (fun _ h => List.mem_cons_of_mem _ (List.mem_append_right _ h)) gwX10))
set_option maxRecDepth 20000 in
theorem g_X3_read_1 : GoodIn q_X3_read (wsV RX3 40 RX3 yX3_readClause q_X3_readClause) := goodIn_app (goodIn_r _ [27, 25, 26, 24] (by decide +kernel) (by decide +kernel)) (goodIn_ca (goodIn_ca (goodIn_r (.code yX3_readClause cX3_readClause 4 (some .boolean) :: [.fieldLink RX3 19 "LeftArguments$LawReader" "tape" "LLeftArguments$Tape;", .code yX10_take cX10_take 2 (some .boolean), .code yX10_next cX10_next 1 (some .int), .fieldLink RX10 19 "LeftArguments$Tape" "at" "I", .fieldLink RX10 15 "LeftArguments$Tape" "used" "I", .initialized RX10, .instanceMethod yX10_next, .selects RX10 yX10_next yX10_next, .methodLink RX10 37 yX10_next, .code yX10_wrongHere cX10_wrongHere 1 (some .boolean), .fieldLink RX10 22 "LeftArguments$Tape" "wrongAt" "I", .instanceMethod yX10_wrongHere, .selects RX10 yX10_wrongHere yX10_wrongHere, .methodLink RX10 41 yX10_wrongHere, .instanceMethod yX10_take, .selects RX10 yX10_take yX10_take, .methodLink RX3 51 yX10_take]) [10, 1, 11, 12, 3, 13, 5, 14, 15, 16, 17, 4, 18, 19, 20, 21, 22, 23] (by decide +kernel) (by decide +kernel)) (goodIn_sub (fun _ h => List.mem_cons_of_mem _ (List.mem_append_left _ (List.mem_append_right _ h))) gwX3)) (goodIn_sub (fun _ h => List.mem_cons_of_mem _ (List.mem_append_right _ h)) gwX10))
set_option maxRecDepth 20000 in
theorem g_X3_read_2 : GoodIn q_X3_read (wsV RX3 44 RX10 yX10_wrongAt q_X10_wrongAt) := goodIn_app (goodIn_r _ [31, 29, 30, 5] (by decide +kernel) (by decide +kernel)) (goodIn_ca (goodIn_r (.code yX10_wrongAt cX10_wrongAt 1 (some .int) :: [.fieldLink RX10 22 "LeftArguments$Tape" "wrongAt" "I"]) [28, 4] (by decide +kernel) (by decide +kernel)) (goodIn_sub (fun _ h => List.mem_cons_of_mem _ (List.mem_append_right _ h)) gwX10))
set_option maxHeartbeats 4000000 in
set_option maxRecDepth 100000 in
theorem k_X3_read (l : Launch) (dC : Nat → ClassId) (dI : Nat → Nat → Nat) (h0 h1 : Nat) (r0 r1 : Nat) (sz : Nat) : Met l yX3_read q_X3_read ({ frames := 3, cells := 0, slots := 0, locals := 64 }) (va_Pc [.ref h0] (fun U => U.heap.size = sz ∧ va_P (dC, dI) vwCl [(h0, .inr (3, [.ref h1, .ref r0, .int 0])), (h1, .inr (10, [.ref r1, .int 0, .int 0, .int (-1), .int 0]))] U.heap ∧ va_K (dC, dI) vwCl [] U ∧ va_D (fun _ => True) [(h0, .inr (3, [.ref h1, .ref r0, .int 0])), (h1, .inr (10, [.ref r1, .int 0, .int 0, .int (-1), .int 0]))])) (va_Qi (fun (r : Int32) (_ : Unit) => r = 0) (fun (_ : Unit) (t : State) => va_P (dC, dI) vwCl [(h0, .inr (3, [.ref h1, .ref r0, .int 0])), (h1, .inr (10, [.ref r1, .int 0, .int 0, .int 0, .int 0]))] t.heap ∧ va_K (dC, dI) vwCl [] t ∧ va_D (va_A [(h0, .inr (3, [.ref h1, .ref r0, .int 0])), (h1, .inr (10, [.ref r1, .int 0, .int 0, .int (-1), .int 0]))] sz) [(h0, .inr (3, [.ref h1, .ref r0, .int 0])), (h1, .inr (10, [.ref r1, .int 0, .int 0, .int 0, .int 0]))]) (va_A [(h0, .inr (3, [.ref h1, .ref r0, .int 0])), (h1, .inr (10, [.ref r1, .int 0, .int 0, .int (-1), .int 0]))] sz)) 0 0 (va_A [(h0, .inr (3, [.ref h1, .ref r0, .int 0])), (h1, .inr (10, [.ref r1, .int 0, .int 0, .int (-1), .int 0]))] sz) := by
  refine Met.ofW (cc := cX3_read) (maxL := 2) (ret := (some .int)) (by decide) rfl ?_
  intro p e s m args below meth c s₁ B hml hv
  obtain ⟨rfl, hsz, hP, hK, hD0⟩ := hv
  have hx := B.exec
  have hb := B.bytes
  have hr := B.returns
  have hts := atoms_spec (ws := q_X3_read) B.pre
  have hown : s.vm.findClass RX3 = some m.cls := findClass_of_methodNamed B.named
  have hlocks := B.notSynchronized
  subst hsz
  have hD := hD0.self (sz := s.heap.size)
  generalize hAe : va_A [(h0, .inr (3, [.ref h1, .ref r0, .int 0])), (h1, .inr (10, [.ref r1, .int 0, .int 0, .int (-1), .int 0]))] s.heap.size = A at hD ⊢
  have hA : ∀ q : Nat, s.heap.size ≤ q → A q := fun q h => by rw [← hAe]; exact Or.inr h
  have hS : va_S A s.heap s.heap [] := va_S.rf
  have hl := lv_entry ([.ref h0]) (n := 2) (Nat.le_of_ble_eq_true rfl)
  rw [lg_entry_eq]
  generalize (lg_sl ([.ref h0]) ++ List.replicate (2 - (lg_sl ([.ref h0])).length) Slot.unset).toArray = ls at hl ⊢
  have hl : lv_has ls 2 [(0, .ref h0)] := hl
  refine lv_aload_n hx hb dX3_read_0 rfl (lv_at hl 0 rfl) ?_
  refine va_get (D := (dC, dI)) (ci := 3) (v := .ref h1) (C := RX3) (T := TX3) (N := 3) hx hb hts (fun _ h => List.mem_cons_of_mem _ (List.mem_append_left _ (List.mem_append_right _ h))) hown hK hP 0 rfl rfl 0 (by decide) (hts (.fieldLink RX3 19 "LeftArguments$LawReader" "tape" "LLeftArguments$Tape;") (List.mem_cons_of_mem _ (List.mem_append_left _ (List.mem_append_left _ (List.mem_of_getElem? (i := 0) rfl))))) (fun _ h9 => h9) rfl dX3_read_1 ?_
  have hPc := hP.sub (ws' := [(h1, .inr (10, [.ref r1, .int 0, .int 0, .int (-1), .int 0]))]) [1] rfl
  have hDc := hD.sub (ws' := [(h1, .inr (10, [.ref r1, .int 0, .int 0, .int (-1), .int 0]))]) [1] (by decide) rfl
  have hKc := hK.sub (tys' := []) [] rfl
  have hFc := va_free (wc := [(h1, .inr (10, [.ref r1, .int 0, .int 0, .int (-1), .int 0]))]) hD hS hA [1] rfl
  refine va_callv (va_runV (As := []) (rest := []) ⟨hx, hb, hml, hown, hts⟩ (k_X10_rewind l dC dI h1 r1  s.heap.size) (cwV 0 hts g_X3_read_0 rfl rfl rfl (by decide +kernel) ⟨Nat.le_of_ble_eq_true rfl, Nat.le_of_ble_eq_true rfl⟩) ⟨fun a U g mk q => by obtain ⟨q0, q1, qP, qK, qD⟩ := q; exact ⟨q0, q1, qP, va_K.moved (u := U) (U := U.calling g mk a) (Vm.Alike.refl U.vm) qK, qD⟩, va_recv hKc hPc (ci := 10) (q0 := 0) rfl rfl, fun U hU hW => ⟨rfl, by rw [hU], by rw [hU]; exact hPc, va_K.moved hW.alike hKc, hDc.weaken (fun _ _ _ _ => trivial)⟩⟩ rfl rfl hl.1 rfl (lv_room (Nat.le_of_ble_eq_true rfl)) dX3_read_4 ⟨Nat.le_of_ble_eq_true rfl, Nat.le_of_ble_eq_true rfl⟩) hS (fun q _ h => hFc q h) hFc (fun u t H1 locs ht hvm hw hB hz1 hk1 hS => ?_)
  obtain ⟨hP1, hK1, hD1⟩ := hB
  rw [ht] at hP1
  obtain ⟨hP, hD⟩ := va_join (wr := [(h0, .inr (3, [.ref h1, .ref r0, .int 0]))]) (w1 := [(h1, .inr (10, [.ref r1, .int 0, .int 0, .int (-1), .int 0]))]) hP hD [1] [0] rfl rfl (by decide) (by decide) hk1 hFc hP1 hD1
  generalize H1 = H at hP hS ⊢
  have hP : va_P (dC, dI) vwCl [(h0, .inr (3, [.ref h1, .ref r0, .int 0])), (h1, .inr (10, [.ref r1, .int 0, .int 0, .int (-1), .int 0]))] H := hP
  have hD : va_D A [(h0, .inr (3, [.ref h1, .ref r0, .int 0])), (h1, .inr (10, [.ref r1, .int 0, .int 0, .int (-1), .int 0]))] := hD
  refine lv_aload_n hx hb dX3_read_7 rfl (lv_at hl 0 rfl) ?_
  refine lv_iconst (v := 0) hx hb dX3_read_8 (by decide) ?_
  refine va_put (D := (dC, dI)) (ci := 3) (v := .int 0) (ty := .int) (C := RX3) (T := TX3) (N := 3) hx hb hts (fun _ h => List.mem_cons_of_mem _ (List.mem_append_left _ (List.mem_append_right _ h))) tyX3 tyX3_ok nmX3 hown hK hP hD hS 0 rfl rfl 2 (by decide) (hts (.fieldLink RX3 15 "LeftArguments$LawReader" "used" "I") (List.mem_cons_of_mem _ (List.mem_append_left _ (List.mem_append_left _ (List.mem_of_getElem? (i := 8) rfl))))) (fun _ h9 => h9) rfl (by decide +kernel) rfl rfl (Nat.le_of_ble_eq_true rfl) dX3_read_9 (fun H locs hP hD hS => ?_)
  have hP : va_P (dC, dI) vwCl [(h0, .inr (3, [.ref h1, .ref r0, .int 0])), (h1, .inr (10, [.ref r1, .int 0, .int 0, .int (-1), .int 0]))] H := hP
  have hD : va_D A [(h0, .inr (3, [.ref h1, .ref r0, .int 0])), (h1, .inr (10, [.ref r1, .int 0, .int 0, .int (-1), .int 0]))] := hD
  refine lv_iconst (v := 0) hx hb dX3_read_12 (by decide) ?_
  refine lv_istore_n (lv' := [(1, .int 0), (0, .ref h0)]) hx hb dX3_read_13 rfl hl (by decide) rfl (fun ls hl => ?_)
  refine lv_iload_n hx hb dX3_read_14 rfl (lv_at hl 0 rfl) ?_
  refine lv_sipush (v := 240) hx hb dX3_read_15 (by decide) ?_
  refine lv_icmp_gt (tgt := 75) hx hb dX3_read_18 (by decide) (fun c => absurd c (by decide)) (fun _ => ?_)
  refine lv_aload_n hx hb dX3_read_21 rfl (lv_at hl 1 rfl) ?_
  have hPc := hP.sub (ws' := [(h0, .inr (3, [.ref h1, .ref r0, .int 0])), (h1, .inr (10, [.ref r1, .int 0, .int 0, .int (-1), .int 0]))]) [0, 1] rfl
  have hDc := hD.sub (ws' := [(h0, .inr (3, [.ref h1, .ref r0, .int 0])), (h1, .inr (10, [.ref r1, .int 0, .int 0, .int (-1), .int 0]))]) [0, 1] (by decide) rfl
  have hKc := hK.sub (tys' := []) [] rfl
  have hFc := va_free (wc := [(h0, .inr (3, [.ref h1, .ref r0, .int 0])), (h1, .inr (10, [.ref r1, .int 0, .int 0, .int (-1), .int 0]))]) hD hS hA [0, 1] rfl
  refine va_calli (va_runV (As := []) (rest := []) ⟨hx, hb, hml, hown, hts⟩ (k_X3_readClause l dC dI h0 h1 r0 r1  H.size) (cwV 0 hts g_X3_read_1 rfl rfl rfl (by decide +kernel) ⟨Nat.le_of_ble_eq_true rfl, Nat.le_of_ble_eq_true rfl⟩) ⟨fun a U g mk q => by obtain ⟨q0, q1, qP, qK, qD⟩ := q; exact ⟨q0, q1, qP, va_K.moved (u := U) (U := U.calling g mk a) (Vm.Alike.refl U.vm) qK, qD⟩, va_recv hKc hPc (ci := 3) (q0 := 0) rfl rfl, fun U hU hW => ⟨rfl, by rw [hU], by rw [hU]; exact hPc, va_K.moved hW.alike hKc, hDc.weaken (fun _ _ _ _ => trivial)⟩⟩ rfl rfl hl.1 rfl (lv_room (Nat.le_of_ble_eq_true rfl)) dX3_read_22 ⟨Nat.le_of_ble_eq_true rfl, Nat.le_of_ble_eq_true rfl⟩) hS (fun q _ h => hFc q h) hFc (fun ra2 u t H1 locs ht hvm hw hB hz1 hk1 hS => ?_)
  obtain ⟨hP1, hK1, hD1⟩ := hB
  rw [ht] at hP1
  obtain ⟨hP, hD⟩ := va_join (wr := []) (w1 := [(h0, .inr (3, [.ref h1, .ref r0, .int 0])), (h1, .inr (10, [.ref r1, .int 0, .int 0, .int 0, .int 0]))]) hP hD [0, 1] [] rfl rfl (by decide) (by decide) hk1 hFc hP1 hD1
  generalize H1 = H at hP hS ⊢
  have hP : va_P (dC, dI) vwCl [(h0, .inr (3, [.ref h1, .ref r0, .int 0])), (h1, .inr (10, [.ref r1, .int 0, .int 0, .int 0, .int 0]))] H := hP
  have hD : va_D A [(h0, .inr (3, [.ref h1, .ref r0, .int 0])), (h1, .inr (10, [.ref r1, .int 0, .int 0, .int 0, .int 0]))] := hD
  obtain rfl : ra2 = (0 : Int32) := hw
  refine lv_if_ne (tgt := 36) hx hb dX3_read_25 (by decide) (fun c => absurd (by decide) c) (fun _ => ?_)
  refine lv_aload_n hx hb dX3_read_28 rfl (lv_at hl 1 rfl) ?_
  refine va_get (D := (dC, dI)) (ci := 3) (v := .ref h1) (C := RX3) (T := TX3) (N := 3) hx hb hts (fun _ h => List.mem_cons_of_mem _ (List.mem_append_left _ (List.mem_append_right _ h))) hown hK hP 0 rfl rfl 0 (by decide) (hts (.fieldLink RX3 19 "LeftArguments$LawReader" "tape" "LLeftArguments$Tape;") (List.mem_cons_of_mem _ (List.mem_append_left _ (List.mem_append_left _ (List.mem_of_getElem? (i := 0) rfl))))) (fun _ h9 => h9) rfl dX3_read_29 ?_
  have hPc := hP.sub (ws' := [(h1, .inr (10, [.ref r1, .int 0, .int 0, .int 0, .int 0]))]) [1] rfl
  have hDc := hD.sub (ws' := [(h1, .inr (10, [.ref r1, .int 0, .int 0, .int 0, .int 0]))]) [1] (by decide) rfl
  have hKc := hK.sub (tys' := []) [] rfl
  have hFc := va_free (wc := [(h1, .inr (10, [.ref r1, .int 0, .int 0, .int 0, .int 0]))]) hD hS hA [1] rfl
  refine va_calli (va_runV (As := []) (rest := []) ⟨hx, hb, hml, hown, hts⟩ (k_X10_wrongAt l dC dI h1 r1  H.size) (cwV 0 hts g_X3_read_2 rfl rfl rfl (by decide +kernel) ⟨Nat.le_of_ble_eq_true rfl, Nat.le_of_ble_eq_true rfl⟩) ⟨fun a U g mk q => by obtain ⟨q0, q1, qP, qK, qD⟩ := q; exact ⟨q0, q1, qP, va_K.moved (u := U) (U := U.calling g mk a) (Vm.Alike.refl U.vm) qK, qD⟩, va_recv hKc hPc (ci := 10) (q0 := 0) rfl rfl, fun U hU hW => ⟨rfl, by rw [hU], by rw [hU]; exact hPc, va_K.moved hW.alike hKc, hDc.weaken (fun _ _ _ _ => trivial)⟩⟩ rfl rfl hl.1 rfl (lv_room (Nat.le_of_ble_eq_true rfl)) dX3_read_32 ⟨Nat.le_of_ble_eq_true rfl, Nat.le_of_ble_eq_true rfl⟩) hS (fun q _ h => hFc q h) hFc (fun ra3 u t H1 locs ht hvm hw hB hz1 hk1 hS => ?_)
  obtain ⟨hP1, hK1, hD1⟩ := hB
  rw [ht] at hP1
  obtain ⟨hP, hD⟩ := va_join (wr := [(h0, .inr (3, [.ref h1, .ref r0, .int 0]))]) (w1 := [(h1, .inr (10, [.ref r1, .int 0, .int 0, .int 0, .int 0]))]) hP hD [1] [0] rfl rfl (by decide) (by decide) hk1 hFc hP1 hD1
  generalize H1 = H at hP hS ⊢
  have hP : va_P (dC, dI) vwCl [(h0, .inr (3, [.ref h1, .ref r0, .int 0])), (h1, .inr (10, [.ref r1, .int 0, .int 0, .int 0, .int 0]))] H := hP
  have hD : va_D A [(h0, .inr (3, [.ref h1, .ref r0, .int 0])), (h1, .inr (10, [.ref r1, .int 0, .int 0, .int 0, .int 0]))] := hD
  obtain rfl : ra3 = (0 : Int32) := hw
  have hP9 := hP.sub (ws' := [(h0, .inr (3, [.ref h1, .ref r0, .int 0])), (h1, .inr (10, [.ref r1, .int 0, .int 0, .int 0, .int 0]))]) [0, 1] rfl
  have hD9 := hD.sub (ws' := [(h0, .inr (3, [.ref h1, .ref r0, .int 0])), (h1, .inr (10, [.ref r1, .int 0, .int 0, .int 0, .int 0]))]) [0, 1] (by decide) rfl
  have hK9 := hK.sub (tys' := []) [] rfl
  exact W.iret (v := 0) hx hb hr (fun t ht hW => ⟨⟨0, (), rfl, rfl, by rw [ht]; exact hP9, va_K.moved hW.alike hK9, hD9⟩, hS.F ht⟩) hS.2.2 dX3_read_35
def q_X6_readClause : List Cond := .code yX6_readClause cX6_readClause 3 (some .boolean) :: (([.fieldLink RX6 26 "LeftArguments$OfficeReader" "tape" "LLeftArguments$Tape;", .code yX10_next cX10_next 1 (some .int), .fieldLink RX10 19 "LeftArguments$Tape" "at" "I", .fieldLink RX10 15 "LeftArguments$Tape" "used" "I", .initialized RX10, .instanceMethod yX10_next, .selects RX10 yX10_next yX10_next, .methodLink RX6 61 yX10_next, .code yX10_wrongHere cX10_wrongHere 1 (some .boolean), .fieldLink RX10 22 "LeftArguments$Tape" "wrongAt" "I", .instanceMethod yX10_wrongHere, .selects RX10 yX10_wrongHere yX10_wrongHere, .methodLink RX6 93 yX10_wrongHere] : List Cond) ++ wsX60 ++ wsX100)
set_option maxRecDepth 20000 in
theorem g_X6_readClause_0 : GoodIn q_X6_readClause (wsV RX6 61 RX10 yX10_next q_X10_next) := goodIn_app (goodIn_r _ [8, 6, 7, 5] (by decide +kernel) (by decide +kernel)) (goodIn_ca (goodIn_r (.code yX10_next cX10_next 1 (some .int) :: [.fieldLink RX10 19 "LeftArguments$Tape" "at" "I", .fieldLink RX10 15 "LeftArguments$Tape" "used" "I"]) [2, 3, 4] (by decide +kernel) (by decide +kernel)) (goodIn_sub (fun _ h => List.mem_cons_of_mem _ (List.mem_append_right _ h)) gwX10))
set_option maxRecDepth 20000 in
theorem g_X6_readClause_1 : GoodIn q_X6_readClause (wsV RX6 93 RX10 yX10_wrongHere q_X10_wrongHere) := goodIn_app (goodIn_r _ [13, 11, 12, 5] (by decide +kernel) (by decide +kernel)) (goodIn_ca (goodIn_r (.code yX10_wrongHere cX10_wrongHere 1 (some .boolean) :: [.fieldLink RX10 19 "LeftArguments$Tape" "at" "I", .fieldLink RX10 22 "LeftArguments$Tape" "wrongAt" "I"]) [9, 3, 10] (by decide +kernel) (by decide +kernel)) (goodIn_sub (fun _ h => List.mem_cons_of_mem _ (List.mem_append_right _ h)) gwX10))
set_option maxHeartbeats 4000000 in
set_option maxRecDepth 100000 in
theorem k_X6_readClause (l : Launch) (dC : Nat → ClassId) (dI : Nat → Nat → Nat) (h0 h1 : Nat) (r0 r1 r2 : Nat) (sz : Nat) : Met l yX6_readClause q_X6_readClause ({ frames := 1, cells := 0, slots := 0, locals := 20 }) (va_Pc [.ref h0] (fun U => U.heap.size = sz ∧ va_P (dC, dI) vwCl [(h0, .inr (6, [.ref h1, .ref r0, .ref r1, .int 0, .int 0])), (h1, .inr (10, [.ref r2, .int 0, .int 0, .int (-1), .int 0]))] U.heap ∧ va_K (dC, dI) vwCl [] U ∧ va_D (fun _ => True) [(h0, .inr (6, [.ref h1, .ref r0, .ref r1, .int 0, .int 0])), (h1, .inr (10, [.ref r2, .int 0, .int 0, .int (-1), .int 0]))])) (va_Qi (fun (r : Int32) (_ : Unit) => r = 0) (fun (_ : Unit) (t : State) => va_P (dC, dI) vwCl [(h0, .inr (6, [.ref h1, .ref r0, .ref r1, .int 0, .int 0])), (h1, .inr (10, [.ref r2, .int 0, .int 0, .int 0, .int 0]))] t.heap ∧ va_K (dC, dI) vwCl [] t ∧ va_D (va_A [(h0, .inr (6, [.ref h1, .ref r0, .ref r1, .int 0, .int 0])), (h1, .inr (10, [.ref r2, .int 0, .int 0, .int (-1), .int 0]))] sz) [(h0, .inr (6, [.ref h1, .ref r0, .ref r1, .int 0, .int 0])), (h1, .inr (10, [.ref r2, .int 0, .int 0, .int 0, .int 0]))]) (va_A [(h0, .inr (6, [.ref h1, .ref r0, .ref r1, .int 0, .int 0])), (h1, .inr (10, [.ref r2, .int 0, .int 0, .int (-1), .int 0]))] sz)) 0 0 (va_A [(h0, .inr (6, [.ref h1, .ref r0, .ref r1, .int 0, .int 0])), (h1, .inr (10, [.ref r2, .int 0, .int 0, .int (-1), .int 0]))] sz) := by
  refine Met.ofW (cc := cX6_readClause) (maxL := 3) (ret := (some .boolean)) (by decide) rfl ?_
  intro p e s m args below meth c s₁ B hml hv
  obtain ⟨rfl, hsz, hP, hK, hD0⟩ := hv
  have hx := B.exec
  have hb := B.bytes
  have hr := B.returns
  have hts := atoms_spec (ws := q_X6_readClause) B.pre
  have hown : s.vm.findClass RX6 = some m.cls := findClass_of_methodNamed B.named
  have hlocks := B.notSynchronized
  subst hsz
  have hD := hD0.self (sz := s.heap.size)
  generalize hAe : va_A [(h0, .inr (6, [.ref h1, .ref r0, .ref r1, .int 0, .int 0])), (h1, .inr (10, [.ref r2, .int 0, .int 0, .int (-1), .int 0]))] s.heap.size = A at hD ⊢
  have hA : ∀ q : Nat, s.heap.size ≤ q → A q := fun q h => by rw [← hAe]; exact Or.inr h
  have hS : va_S A s.heap s.heap [] := va_S.rf
  have hl := lv_entry ([.ref h0]) (n := 3) (Nat.le_of_ble_eq_true rfl)
  rw [lg_entry_eq]
  generalize (lg_sl ([.ref h0]) ++ List.replicate (3 - (lg_sl ([.ref h0])).length) Slot.unset).toArray = ls at hl ⊢
  have hl : lv_has ls 3 [(0, .ref h0)] := hl
  refine lv_aload_n hx hb dX6_readClause_0 rfl (lv_at hl 0 rfl) ?_
  refine va_get (D := (dC, dI)) (ci := 6) (v := .ref h1) (C := RX6) (T := TX6) (N := 5) hx hb hts (fun _ h => List.mem_cons_of_mem _ (List.mem_append_left _ (List.mem_append_right _ h))) hown hK hP 0 rfl rfl 0 (by decide) (hts (.fieldLink RX6 26 "LeftArguments$OfficeReader" "tape" "LLeftArguments$Tape;") (List.mem_cons_of_mem _ (List.mem_append_left _ (List.mem_append_left _ (List.mem_of_getElem? (i := 0) rfl))))) (fun _ h9 => h9) rfl dX6_readClause_1 ?_
  have hPc := hP.sub (ws' := [(h1, .inr (10, [.ref r2, .int 0, .int 0, .int (-1), .int 0]))]) [1] rfl
  have hDc := hD.sub (ws' := [(h1, .inr (10, [.ref r2, .int 0, .int 0, .int (-1), .int 0]))]) [1] (by decide) rfl
  have hKc := hK.sub (tys' := []) [] rfl
  have hFc := va_free (wc := [(h1, .inr (10, [.ref r2, .int 0, .int 0, .int (-1), .int 0]))]) hD hS hA [1] rfl
  refine va_calli (va_runV (As := []) (rest := []) ⟨hx, hb, hml, hown, hts⟩ (k_X10_next l dC dI h1 r2  s.heap.size) (cwV 0 hts g_X6_readClause_0 rfl rfl rfl (by decide +kernel) ⟨Nat.le_of_ble_eq_true rfl, Nat.le_of_ble_eq_true rfl⟩) ⟨fun a U g mk q => by obtain ⟨q0, q1, qP, qK, qD⟩ := q; exact ⟨q0, q1, qP, va_K.moved (u := U) (U := U.calling g mk a) (Vm.Alike.refl U.vm) qK, qD⟩, va_recv hKc hPc (ci := 10) (q0 := 0) rfl rfl, fun U hU hW => ⟨rfl, by rw [hU], by rw [hU]; exact hPc, va_K.moved hW.alike hKc, hDc.weaken (fun _ _ _ _ => trivial)⟩⟩ rfl rfl hl.1 rfl (lv_room (Nat.le_of_ble_eq_true rfl)) dX6_readClause_4 ⟨Nat.le_of_ble_eq_true rfl, Nat.le_of_ble_eq_true rfl⟩) hS (fun q _ h => hFc q h) hFc (fun ra1 u t H1 locs ht hvm hw hB hz1 hk1 hS => ?_)
  obtain ⟨hP1, hK1, hD1⟩ := hB
  rw [ht] at hP1
  obtain ⟨hP, hD⟩ := va_join (wr := [(h0, .inr (6, [.ref h1, .ref r0, .ref r1, .int 0, .int 0]))]) (w1 := [(h1, .inr (10, [.ref r2, .int 0, .int 0, .int (-1), .int 0]))]) hP hD [1] [0] rfl rfl (by decide) (by decide) hk1 hFc hP1 hD1
  generalize H1 = H at hP hS ⊢
  have hP : va_P (dC, dI) vwCl [(h0, .inr (6, [.ref h1, .ref r0, .ref r1, .int 0, .int 0])), (h1, .inr (10, [.ref r2, .int 0, .int 0, .int (-1), .int 0]))] H := hP
  have hD : va_D A [(h0, .inr (6, [.ref h1, .ref r0, .ref r1, .int 0, .int 0])), (h1, .inr (10, [.ref r2, .int 0, .int 0, .int (-1), .int 0]))] := hD
  obtain rfl : ra1 = ((-1) : Int32) := hw
  refine lv_istore_n (lv' := [(1, .int (-1)), (0, .ref h0)]) hx hb dX6_readClause_7 rfl hl (by decide) rfl (fun ls hl => ?_)
  refine lv_iload_n hx hb dX6_readClause_8 rfl (lv_at hl 0 rfl) ?_
  refine lv_bipush (v := 115) hx hb dX6_readClause_9 (by decide) ?_
  refine lv_icmp_ne (tgt := 51) hx hb dX6_readClause_11 (by decide) (fun _ => ?_) (fun c => absurd c (by decide))
  refine lv_iload_n hx hb dX6_readClause_51 rfl (lv_at hl 0 rfl) ?_
  refine lv_bipush (v := 98) hx hb dX6_readClause_52 (by decide) ?_
  refine lv_icmp_ne (tgt := 108) hx hb dX6_readClause_54 (by decide) (fun _ => ?_) (fun c => absurd c (by decide))
  refine lv_aload_n hx hb dX6_readClause_108 rfl (lv_at hl 1 rfl) ?_
  refine va_get (D := (dC, dI)) (ci := 6) (v := .ref h1) (C := RX6) (T := TX6) (N := 5) hx hb hts (fun _ h => List.mem_cons_of_mem _ (List.mem_append_left _ (List.mem_append_right _ h))) hown hK hP 0 rfl rfl 0 (by decide) (hts (.fieldLink RX6 26 "LeftArguments$OfficeReader" "tape" "LLeftArguments$Tape;") (List.mem_cons_of_mem _ (List.mem_append_left _ (List.mem_append_left _ (List.mem_of_getElem? (i := 0) rfl))))) (fun _ h9 => h9) rfl dX6_readClause_109 ?_
  have hPc := hP.sub (ws' := [(h1, .inr (10, [.ref r2, .int 0, .int 0, .int (-1), .int 0]))]) [1] rfl
  have hDc := hD.sub (ws' := [(h1, .inr (10, [.ref r2, .int 0, .int 0, .int (-1), .int 0]))]) [1] (by decide) rfl
  have hKc := hK.sub (tys' := []) [] rfl
  have hFc := va_free (wc := [(h1, .inr (10, [.ref r2, .int 0, .int 0, .int (-1), .int 0]))]) hD hS hA [1] rfl
  refine va_calli (va_runV (As := []) (rest := []) ⟨hx, hb, hml, hown, hts⟩ (k_X10_wrongHere l dC dI h1 r2  H.size) (cwV 0 hts g_X6_readClause_1 rfl rfl rfl (by decide +kernel) ⟨Nat.le_of_ble_eq_true rfl, Nat.le_of_ble_eq_true rfl⟩) ⟨fun a U g mk q => by obtain ⟨q0, q1, qP, qK, qD⟩ := q; exact ⟨q0, q1, qP, va_K.moved (u := U) (U := U.calling g mk a) (Vm.Alike.refl U.vm) qK, qD⟩, va_recv hKc hPc (ci := 10) (q0 := 0) rfl rfl, fun U hU hW => ⟨rfl, by rw [hU], by rw [hU]; exact hPc, va_K.moved hW.alike hKc, hDc.weaken (fun _ _ _ _ => trivial)⟩⟩ rfl rfl hl.1 rfl (lv_room (Nat.le_of_ble_eq_true rfl)) dX6_readClause_112 ⟨Nat.le_of_ble_eq_true rfl, Nat.le_of_ble_eq_true rfl⟩) hS (fun q _ h => hFc q h) hFc (fun ra2 u t H1 locs ht hvm hw hB hz1 hk1 hS => ?_)
  obtain ⟨hP1, hK1, hD1⟩ := hB
  rw [ht] at hP1
  obtain ⟨hP, hD⟩ := va_join (wr := [(h0, .inr (6, [.ref h1, .ref r0, .ref r1, .int 0, .int 0]))]) (w1 := [(h1, .inr (10, [.ref r2, .int 0, .int 0, .int 0, .int 0]))]) hP hD [1] [0] rfl rfl (by decide) (by decide) hk1 hFc hP1 hD1
  generalize H1 = H at hP hS ⊢
  have hP : va_P (dC, dI) vwCl [(h0, .inr (6, [.ref h1, .ref r0, .ref r1, .int 0, .int 0])), (h1, .inr (10, [.ref r2, .int 0, .int 0, .int 0, .int 0]))] H := hP
  have hD : va_D A [(h0, .inr (6, [.ref h1, .ref r0, .ref r1, .int 0, .int 0])), (h1, .inr (10, [.ref r2, .int 0, .int 0, .int 0, .int 0]))] := hD
  obtain rfl : ra2 = (0 : Int32) := hw
  have hP9 := hP.sub (ws' := [(h0, .inr (6, [.ref h1, .ref r0, .ref r1, .int 0, .int 0])), (h1, .inr (10, [.ref r2, .int 0, .int 0, .int 0, .int 0]))]) [0, 1] rfl
  have hD9 := hD.sub (ws' := [(h0, .inr (6, [.ref h1, .ref r0, .ref r1, .int 0, .int 0])), (h1, .inr (10, [.ref r2, .int 0, .int 0, .int 0, .int 0]))]) [0, 1] (by decide) rfl
  have hK9 := hK.sub (tys' := []) [] rfl
  exact W.zret (v := 0) hx hb hr rfl (fun t ht hW => ⟨⟨0, (), rfl, rfl, by rw [ht]; exact hP9, va_K.moved hW.alike hK9, hD9⟩, hS.F ht⟩) hS.2.2 dX6_readClause_115
def q_X6_read : List Cond := .code yX6_read cX6_read 2 (some .int) :: (([.fieldLink RX6 26 "LeftArguments$OfficeReader" "tape" "LLeftArguments$Tape;", .code yX10_rewind cX10_rewind 1 none, .fieldLink RX10 19 "LeftArguments$Tape" "at" "I", .fieldLink RX10 22 "LeftArguments$Tape" "wrongAt" "I", .initialized RX10, .instanceMethod yX10_rewind, .selects RX10 yX10_rewind yX10_rewind, .methodLink RX6 42 yX10_rewind, .fieldLink RX6 18 "LeftArguments$OfficeReader" "rulesTold" "Z", .fieldLink RX6 22 "LeftArguments$OfficeReader" "bagCount" "I", .fieldLink RX6 47 "LeftArguments$OfficeReader" "RULE_USUAL" "[I", .fieldLink RX6 11 "LeftArguments$OfficeReader" "rules" "[I", .methodLink RX6 36 arraycopyName, .native arraycopyName, .static arraycopyName, .initialized "java/lang/System", .fieldLink RX6 50 "LeftArguments$OfficeReader" "BAG_USUAL" "[I", .fieldLink RX6 15 "LeftArguments$OfficeReader" "bags" "[I", .code yX6_readClause cX6_readClause 3 (some .boolean), .code yX10_next cX10_next 1 (some .int), .fieldLink RX10 15 "LeftArguments$Tape" "used" "I", .instanceMethod yX10_next, .selects RX10 yX10_next yX10_next, .methodLink RX6 61 yX10_next, .code yX10_wrongHere cX10_wrongHere 1 (some .boolean), .instanceMethod yX10_wrongHere, .selects RX10 yX10_wrongHere yX10_wrongHere, .methodLink RX6 93 yX10_wrongHere, .initialized RX6, .instanceMethod yX6_readClause, .selects RX6 yX6_readClause yX6_readClause, .methodLink RX6 53 yX6_readClause, .code yX10_wrongAt cX10_wrongAt 1 (some .int), .instanceMethod yX10_wrongAt, .selects RX10 yX10_wrongAt yX10_wrongAt, .methodLink RX6 57 yX10_wrongAt] : List Cond) ++ wsX60 ++ wsX100)
set_option maxRecDepth 20000 in
theorem g_X6_read_0 : GoodIn q_X6_read (wsV RX6 42 RX10 yX10_rewind q_X10_rewind) := goodIn_app (goodIn_r _ [8, 6, 7, 5] (by decide +kernel) (by decide +kernel)) (goodIn_ca (goodIn_r (.code yX10_rewind cX10_rewind 1 none :: [.fieldLink RX10 19 "LeftArguments$Tape" "at" "I", .fieldLink RX10 22 "LeftArguments$Tape" "wrongAt" "I"]) [2, 3, 4] (by decide +kernel) (by decide +kernel)) (goodIn_sub (fun _ h => List.mem_cons_of_mem _ (List.mem_append_right _ h)) gwX10))
set_option maxRecDepth 20000 in
theorem g_X6_read_1 : GoodIn q_X6_read (wsV RX6 53 RX6 yX6_readClause q_X6_readClause) := goodIn_app (goodIn_r _ [32, 30, 31, 29] (by decide +kernel) (by decide +kernel)) (goodIn_ca (goodIn_ca (goodIn_r (.code yX6_readClause cX6_readClause 3 (some .boolean) :: [.fieldLink RX6 26 "LeftArguments$OfficeReader" "tape" "LLeftArguments$Tape;", .code yX10_next cX10_next 1 (some .int), .fieldLink RX10 19 "LeftArguments$Tape" "at" "I", .fieldLink RX10 15 "LeftArguments$Tape" "used" "I", .initialized RX10, .instanceMethod yX10_next, .selects RX10 yX10_next yX10_next, .methodLink RX6 61 yX10_next, .code yX10_wrongHere cX10_wrongHere 1 (some .boolean), .fieldLink RX10 22 "LeftArguments$Tape" "wrongAt" "I", .instanceMethod yX10_wrongHere, .selects RX10 yX10_wrongHere yX10_wrongHere, .methodLink RX6 93 yX10_wrongHere]) [19, 1, 20, 3, 21, 5, 22, 23, 24, 25, 4, 26, 27, 28] (by decide +kernel) (by decide +kernel)) (goodIn_sub (fun _ h => List.mem_cons_of_mem _ (List.mem_append_left _ (List.mem_append_right _ h))) gwX6)) (goodIn_sub (fun _ h => List.mem_cons_of_mem _ (List.mem_append_right _ h)) gwX10))
set_option maxRecDepth 20000 in
theorem g_X6_read_2 : GoodIn q_X6_read (wsV RX6 57 RX10 yX10_wrongAt q_X10_wrongAt) := goodIn_app (goodIn_r _ [36, 34, 35, 5] (by decide +kernel) (by decide +kernel)) (goodIn_ca (goodIn_r (.code yX10_wrongAt cX10_wrongAt 1 (some .int) :: [.fieldLink RX10 22 "LeftArguments$Tape" "wrongAt" "I"]) [33, 4] (by decide +kernel) (by decide +kernel)) (goodIn_sub (fun _ h => List.mem_cons_of_mem _ (List.mem_append_right _ h)) gwX10))
set_option maxHeartbeats 4000000 in
set_option maxRecDepth 100000 in
theorem k_X6_read (l : Launch) (dC : Nat → ClassId) (dI : Nat → Nat → Nat) (g0 g1 : ClassId) (h0 h1 h2 h3 : Nat) (r0 : Nat) (sz : Nat) : Met l yX6_read q_X6_read ({ frames := 2, cells := 0, slots := 0, locals := 60 }) (va_Pc [.ref h0] (fun U => U.heap.size = sz ∧ va_P (dC, dI) vwCl [(h0, .inr (6, [.ref h1, .ref h2, .ref h3, .int 0, .int 0])), (h1, .inr (10, [.ref r0, .int 0, .int 0, .int (-1), .int 0])), (h2, .inl (g0, 4, .inl (fun _ => 0))), (h3, .inl (g1, 40, .inl (fun _ => 0)))] U.heap ∧ va_K (dC, dI) vwCl [(g0, .int), (g1, .int)] U ∧ va_D (fun _ => True) [(h0, .inr (6, [.ref h1, .ref h2, .ref h3, .int 0, .int 0])), (h1, .inr (10, [.ref r0, .int 0, .int 0, .int (-1), .int 0])), (h2, .inl (g0, 4, .inl (fun _ => 0))), (h3, .inl (g1, 40, .inl (fun _ => 0)))] ∧ pv_St "RULE_USUAL" 4 (va_A [(h0, .inr (6, [.ref h1, .ref h2, .ref h3, .int 0, .int 0])), (h1, .inr (10, [.ref r0, .int 0, .int 0, .int (-1), .int 0])), (h2, .inl (g0, 4, .inl (fun _ => 0))), (h3, .inl (g1, 40, .inl (fun _ => 0)))] sz) U U.heap ∧ pv_St "BAG_USUAL" 5 (va_A [(h0, .inr (6, [.ref h1, .ref h2, .ref h3, .int 0, .int 0])), (h1, .inr (10, [.ref r0, .int 0, .int 0, .int (-1), .int 0])), (h2, .inl (g0, 4, .inl (fun _ => 0))), (h3, .inl (g1, 40, .inl (fun _ => 0)))] sz) U U.heap)) (va_Qi (fun (r : Int32) (_ : Unit) => r = 0) (fun (_ : Unit) (t : State) => ∃ (fa2 : Nat → Int32) (fa18 : Nat → Int32), va_P (dC, dI) vwCl [(h2, .inl (g0, 4, .inl fa2)), (h3, .inl (g1, 40, .inl fa18)), (h0, .inr (6, [.ref h1, .ref h2, .ref h3, .int 0, .int 0])), (h1, .inr (10, [.ref r0, .int 0, .int 0, .int 0, .int 0]))] t.heap ∧ va_K (dC, dI) vwCl [(g0, .int), (g1, .int)] t ∧ va_D (va_A [(h0, .inr (6, [.ref h1, .ref h2, .ref h3, .int 0, .int 0])), (h1, .inr (10, [.ref r0, .int 0, .int 0, .int (-1), .int 0])), (h2, .inl (g0, 4, .inl (fun _ => 0))), (h3, .inl (g1, 40, .inl (fun _ => 0)))] sz) [(h2, .inl (g0, 4, .inl fa2)), (h3, .inl (g1, 40, .inl fa18)), (h0, .inr (6, [.ref h1, .ref h2, .ref h3, .int 0, .int 0])), (h1, .inr (10, [.ref r0, .int 0, .int 0, .int 0, .int 0]))]) (va_A [(h0, .inr (6, [.ref h1, .ref h2, .ref h3, .int 0, .int 0])), (h1, .inr (10, [.ref r0, .int 0, .int 0, .int (-1), .int 0])), (h2, .inl (g0, 4, .inl (fun _ => 0))), (h3, .inl (g1, 40, .inl (fun _ => 0)))] sz)) 0 0 (va_A [(h0, .inr (6, [.ref h1, .ref h2, .ref h3, .int 0, .int 0])), (h1, .inr (10, [.ref r0, .int 0, .int 0, .int (-1), .int 0])), (h2, .inl (g0, 4, .inl (fun _ => 0))), (h3, .inl (g1, 40, .inl (fun _ => 0)))] sz) := by
  refine Met.ofW (cc := cX6_read) (maxL := 2) (ret := (some .int)) (by decide) rfl ?_
  intro p e s m args below meth c s₁ B hml hv
  obtain ⟨rfl, hsz, hP, hK, hD0, h_st_RULE_USUAL, h_st_BAG_USUAL⟩ := hv
  have hx := B.exec
  have hb := B.bytes
  have hr := B.returns
  have hts := atoms_spec (ws := q_X6_read) B.pre
  have hown : s.vm.findClass RX6 = some m.cls := findClass_of_methodNamed B.named
  have hlocks := B.notSynchronized
  subst hsz
  have hD := hD0.self (sz := s.heap.size)
  generalize hAe : va_A [(h0, .inr (6, [.ref h1, .ref h2, .ref h3, .int 0, .int 0])), (h1, .inr (10, [.ref r0, .int 0, .int 0, .int (-1), .int 0])), (h2, .inl (g0, 4, .inl (fun _ => 0))), (h3, .inl (g1, 40, .inl (fun _ => 0)))] s.heap.size = A at hD h_st_RULE_USUAL h_st_BAG_USUAL ⊢
  have hA : ∀ q : Nat, s.heap.size ≤ q → A q := fun q h => by rw [← hAe]; exact Or.inr h
  have hS : va_S A s.heap s.heap [] := va_S.rf
  have hl := lv_entry ([.ref h0]) (n := 2) (Nat.le_of_ble_eq_true rfl)
  rw [lg_entry_eq]
  generalize (lg_sl ([.ref h0]) ++ List.replicate (2 - (lg_sl ([.ref h0])).length) Slot.unset).toArray = ls at hl ⊢
  have hl : lv_has ls 2 [(0, .ref h0)] := hl
  refine lv_aload_n hx hb dX6_read_0 rfl (lv_at hl 0 rfl) ?_
  refine va_get (D := (dC, dI)) (ci := 6) (v := .ref h1) (C := RX6) (T := TX6) (N := 5) hx hb hts (fun _ h => List.mem_cons_of_mem _ (List.mem_append_left _ (List.mem_append_right _ h))) hown hK hP 0 rfl rfl 0 (by decide) (hts (.fieldLink RX6 26 "LeftArguments$OfficeReader" "tape" "LLeftArguments$Tape;") (List.mem_cons_of_mem _ (List.mem_append_left _ (List.mem_append_left _ (List.mem_of_getElem? (i := 0) rfl))))) (fun _ h9 => h9) rfl dX6_read_1 ?_
  have hPc := hP.sub (ws' := [(h1, .inr (10, [.ref r0, .int 0, .int 0, .int (-1), .int 0]))]) [1] rfl
  have hDc := hD.sub (ws' := [(h1, .inr (10, [.ref r0, .int 0, .int 0, .int (-1), .int 0]))]) [1] (by decide) rfl
  have hKc := hK.sub (tys' := []) [] rfl
  have hFc := va_free (wc := [(h1, .inr (10, [.ref r0, .int 0, .int 0, .int (-1), .int 0]))]) hD hS hA [1] rfl
  refine va_callv (va_runV (As := []) (rest := []) ⟨hx, hb, hml, hown, hts⟩ (k_X10_rewind l dC dI h1 r0  s.heap.size) (cwV 0 hts g_X6_read_0 rfl rfl rfl (by decide +kernel) ⟨Nat.le_of_ble_eq_true rfl, Nat.le_of_ble_eq_true rfl⟩) ⟨fun a U g mk q => by obtain ⟨q0, q1, qP, qK, qD⟩ := q; exact ⟨q0, q1, qP, va_K.moved (u := U) (U := U.calling g mk a) (Vm.Alike.refl U.vm) qK, qD⟩, va_recv hKc hPc (ci := 10) (q0 := 0) rfl rfl, fun U hU hW => ⟨rfl, by rw [hU], by rw [hU]; exact hPc, va_K.moved hW.alike hKc, hDc.weaken (fun _ _ _ _ => trivial)⟩⟩ rfl rfl hl.1 rfl (lv_room (Nat.le_of_ble_eq_true rfl)) dX6_read_4 ⟨Nat.le_of_ble_eq_true rfl, Nat.le_of_ble_eq_true rfl⟩) hS (fun q _ h => hFc q h) hFc (fun u t H1 locs ht hvm hw hB hz1 hk1 hS => ?_)
  obtain ⟨hP1, hK1, hD1⟩ := hB
  rw [ht] at hP1
  obtain ⟨hP, hD⟩ := va_join (wr := [(h0, .inr (6, [.ref h1, .ref h2, .ref h3, .int 0, .int 0])), (h2, .inl (g0, 4, .inl (fun _ => 0))), (h3, .inl (g1, 40, .inl (fun _ => 0)))]) (w1 := [(h1, .inr (10, [.ref r0, .int 0, .int 0, .int (-1), .int 0]))]) hP hD [1] [0, 2, 3] rfl rfl (by decide) (by decide) hk1 hFc hP1 hD1
  generalize H1 = H at hP hS ⊢
  have hP : va_P (dC, dI) vwCl [(h0, .inr (6, [.ref h1, .ref h2, .ref h3, .int 0, .int 0])), (h2, .inl (g0, 4, .inl (fun _ => 0))), (h3, .inl (g1, 40, .inl (fun _ => 0))), (h1, .inr (10, [.ref r0, .int 0, .int 0, .int (-1), .int 0]))] H := hP
  have hD : va_D A [(h0, .inr (6, [.ref h1, .ref h2, .ref h3, .int 0, .int 0])), (h2, .inl (g0, 4, .inl (fun _ => 0))), (h3, .inl (g1, 40, .inl (fun _ => 0))), (h1, .inr (10, [.ref r0, .int 0, .int 0, .int (-1), .int 0]))] := hD
  refine lv_aload_n hx hb dX6_read_7 rfl (lv_at hl 0 rfl) ?_
  refine lv_iconst (v := 0) hx hb dX6_read_8 (by decide) ?_
  refine va_put (D := (dC, dI)) (ci := 6) (v := .int 0) (ty := .boolean) (C := RX6) (T := TX6) (N := 5) hx hb hts (fun _ h => List.mem_cons_of_mem _ (List.mem_append_left _ (List.mem_append_right _ h))) tyX6 tyX6_ok nmX6 hown hK hP hD hS 0 rfl rfl 3 (by decide) (hts (.fieldLink RX6 18 "LeftArguments$OfficeReader" "rulesTold" "Z") (List.mem_cons_of_mem _ (List.mem_append_left _ (List.mem_append_left _ (List.mem_of_getElem? (i := 8) rfl))))) (fun _ h9 => h9) rfl (by decide +kernel) rfl rfl (Nat.le_of_ble_eq_true rfl) dX6_read_9 (fun H locs hP hD hS => ?_)
  have hP : va_P (dC, dI) vwCl [(h0, .inr (6, [.ref h1, .ref h2, .ref h3, .int 0, .int 0])), (h2, .inl (g0, 4, .inl (fun _ => 0))), (h3, .inl (g1, 40, .inl (fun _ => 0))), (h1, .inr (10, [.ref r0, .int 0, .int 0, .int (-1), .int 0]))] H := hP
  have hD : va_D A [(h0, .inr (6, [.ref h1, .ref h2, .ref h3, .int 0, .int 0])), (h2, .inl (g0, 4, .inl (fun _ => 0))), (h3, .inl (g1, 40, .inl (fun _ => 0))), (h1, .inr (10, [.ref r0, .int 0, .int 0, .int (-1), .int 0]))] := hD
  refine lv_aload_n hx hb dX6_read_12 rfl (lv_at hl 0 rfl) ?_
  refine lv_iconst (v := 0) hx hb dX6_read_13 (by decide) ?_
  refine va_put (D := (dC, dI)) (ci := 6) (v := .int 0) (ty := .int) (C := RX6) (T := TX6) (N := 5) hx hb hts (fun _ h => List.mem_cons_of_mem _ (List.mem_append_left _ (List.mem_append_right _ h))) tyX6 tyX6_ok nmX6 hown hK hP hD hS 0 rfl rfl 4 (by decide) (hts (.fieldLink RX6 22 "LeftArguments$OfficeReader" "bagCount" "I") (List.mem_cons_of_mem _ (List.mem_append_left _ (List.mem_append_left _ (List.mem_of_getElem? (i := 9) rfl))))) (fun _ h9 => h9) rfl (by decide +kernel) rfl rfl (Nat.le_of_ble_eq_true rfl) dX6_read_14 (fun H locs hP hD hS => ?_)
  have hP : va_P (dC, dI) vwCl [(h0, .inr (6, [.ref h1, .ref h2, .ref h3, .int 0, .int 0])), (h2, .inl (g0, 4, .inl (fun _ => 0))), (h3, .inl (g1, 40, .inl (fun _ => 0))), (h1, .inr (10, [.ref r0, .int 0, .int 0, .int (-1), .int 0]))] H := hP
  have hD : va_D A [(h0, .inr (6, [.ref h1, .ref h2, .ref h3, .int 0, .int 0])), (h2, .inl (g0, 4, .inl (fun _ => 0))), (h3, .inl (g1, 40, .inl (fun _ => 0))), (h1, .inr (10, [.ref r0, .int 0, .int 0, .int (-1), .int 0]))] := hD
  obtain ⟨tRULE_USUAL, fRULE_USUAL, hzRULE_USUAL, hcRULE_USUAL, hnRULE_USUAL⟩ := h_st_RULE_USUAL
  refine va_gets hx hb hzRULE_USUAL hS hown (hts (.fieldLink RX6 47 "LeftArguments$OfficeReader" "RULE_USUAL" "[I") (List.mem_cons_of_mem _ (List.mem_append_left _ (List.mem_append_left _ (List.mem_of_getElem? (i := 10) rfl))))) (fun _ h9 => h9) dX6_read_17 ?_
  refine lv_iconst (v := 0) hx hb dX6_read_20 (by decide) ?_
  refine lv_aload_n hx hb dX6_read_21 rfl (lv_at hl 0 rfl) ?_
  refine va_get (D := (dC, dI)) (ci := 6) (v := .ref h2) (C := RX6) (T := TX6) (N := 5) hx hb hts (fun _ h => List.mem_cons_of_mem _ (List.mem_append_left _ (List.mem_append_right _ h))) hown hK hP 0 rfl rfl 1 (by decide) (hts (.fieldLink RX6 11 "LeftArguments$OfficeReader" "rules" "[I") (List.mem_cons_of_mem _ (List.mem_append_left _ (List.mem_append_left _ (List.mem_of_getElem? (i := 11) rfl))))) (fun _ h9 => h9) rfl dX6_read_22 ?_
  refine lv_iconst (v := 0) hx hb dX6_read_25 (by decide) ?_
  refine lv_iconst (v := 4) hx hb dX6_read_26 (by decide) ?_
  refine pv_copy hx hb (by rw [hml]; exact hl.1.symm) hown (hts (.methodLink RX6 36 arraycopyName) (List.mem_cons_of_mem _ (List.mem_append_left _ (List.mem_append_left _ (List.mem_of_getElem? (i := 12) rfl))))) (hts (.native arraycopyName) (List.mem_cons_of_mem _ (List.mem_append_left _ (List.mem_append_left _ (List.mem_of_getElem? (i := 13) rfl))))) (hts (.static arraycopyName) (List.mem_cons_of_mem _ (List.mem_append_left _ (List.mem_append_left _ (List.mem_of_getElem? (i := 14) rfl))))) (hts (.initialized "java/lang/System") (List.mem_cons_of_mem _ (List.mem_append_left _ (List.mem_append_left _ (List.mem_of_getElem? (i := 15) rfl))))) hK hP hD hS 1 0 (pv_X_kept hcRULE_USUAL hnRULE_USUAL hS.2.1) rfl rfl (by decide) (by decide) (by decide) (by decide) (by decide) (Nat.le_of_ble_eq_true rfl) (Nat.le_of_ble_eq_true rfl) dX6_read_27 (fun H locs fa2 hP hD hS => ?_)
  have hP : va_P (dC, dI) vwCl [(h0, .inr (6, [.ref h1, .ref h2, .ref h3, .int 0, .int 0])), (h2, .inl (g0, 4, .inl fa2)), (h3, .inl (g1, 40, .inl (fun _ => 0))), (h1, .inr (10, [.ref r0, .int 0, .int 0, .int (-1), .int 0]))] H := hP
  have hD : va_D A [(h0, .inr (6, [.ref h1, .ref h2, .ref h3, .int 0, .int 0])), (h2, .inl (g0, 4, .inl fa2)), (h3, .inl (g1, 40, .inl (fun _ => 0))), (h1, .inr (10, [.ref r0, .int 0, .int 0, .int (-1), .int 0]))] := hD
  refine lv_iconst (v := 0) hx hb dX6_read_30 (by decide) ?_
  refine lv_istore_n (lv' := [(1, .int 0), (0, .ref h0)]) hx hb dX6_read_31 rfl hl (by decide) rfl (fun ls hl => ?_)
  refine lv_iload_n hx hb dX6_read_32 rfl (lv_at hl 0 rfl) ?_
  refine lv_bipush (v := 8) hx hb dX6_read_33 (by decide) ?_
  refine lv_icmp_ge (tgt := 59) hx hb dX6_read_35 (by decide) (fun c => absurd c (by decide)) (fun _ => ?_)
  obtain ⟨tBAG_USUAL, fBAG_USUAL, hzBAG_USUAL, hcBAG_USUAL, hnBAG_USUAL⟩ := h_st_BAG_USUAL
  refine va_gets hx hb hzBAG_USUAL hS hown (hts (.fieldLink RX6 50 "LeftArguments$OfficeReader" "BAG_USUAL" "[I") (List.mem_cons_of_mem _ (List.mem_append_left _ (List.mem_append_left _ (List.mem_of_getElem? (i := 16) rfl))))) (fun _ h9 => h9) dX6_read_38 ?_
  refine lv_iconst (v := 0) hx hb dX6_read_41 (by decide) ?_
  refine lv_aload_n hx hb dX6_read_42 rfl (lv_at hl 1 rfl) ?_
  refine va_get (D := (dC, dI)) (ci := 6) (v := .ref h3) (C := RX6) (T := TX6) (N := 5) hx hb hts (fun _ h => List.mem_cons_of_mem _ (List.mem_append_left _ (List.mem_append_right _ h))) hown hK hP 0 rfl rfl 2 (by decide) (hts (.fieldLink RX6 15 "LeftArguments$OfficeReader" "bags" "[I") (List.mem_cons_of_mem _ (List.mem_append_left _ (List.mem_append_left _ (List.mem_of_getElem? (i := 17) rfl))))) (fun _ h9 => h9) rfl dX6_read_43 ?_
  refine lv_iload_n hx hb dX6_read_46 rfl (lv_at hl 0 rfl) ?_
  refine lv_iconst (v := 5) hx hb dX6_read_47 (by decide) ?_
  refine lv_imul hx hb dX6_read_48 ?_
  refine lv_topi (fun tv3 etv3 => ?_)
  obtain rfl : tv3 = (0 : Int32) := etv3.trans (by first | rfl | decide)
  refine lv_iconst (v := 5) hx hb dX6_read_49 (by decide) ?_
  refine pv_copy hx hb (by rw [hml]; exact hl.1.symm) hown (hts (.methodLink RX6 36 arraycopyName) (List.mem_cons_of_mem _ (List.mem_append_left _ (List.mem_append_left _ (List.mem_of_getElem? (i := 12) rfl))))) (hts (.native arraycopyName) (List.mem_cons_of_mem _ (List.mem_append_left _ (List.mem_append_left _ (List.mem_of_getElem? (i := 13) rfl))))) (hts (.static arraycopyName) (List.mem_cons_of_mem _ (List.mem_append_left _ (List.mem_append_left _ (List.mem_of_getElem? (i := 14) rfl))))) (hts (.initialized "java/lang/System") (List.mem_cons_of_mem _ (List.mem_append_left _ (List.mem_append_left _ (List.mem_of_getElem? (i := 15) rfl))))) hK hP hD hS 2 1 (pv_X_kept hcBAG_USUAL hnBAG_USUAL hS.2.1) rfl rfl (by decide) (by decide) (by decide) (by decide) (by decide) (Nat.le_of_ble_eq_true rfl) (Nat.le_of_ble_eq_true rfl) dX6_read_50 (fun H locs fa4 hP hD hS => ?_)
  have hP : va_P (dC, dI) vwCl [(h0, .inr (6, [.ref h1, .ref h2, .ref h3, .int 0, .int 0])), (h2, .inl (g0, 4, .inl fa2)), (h3, .inl (g1, 40, .inl fa4)), (h1, .inr (10, [.ref r0, .int 0, .int 0, .int (-1), .int 0]))] H := hP
  have hD : va_D A [(h0, .inr (6, [.ref h1, .ref h2, .ref h3, .int 0, .int 0])), (h2, .inl (g0, 4, .inl fa2)), (h3, .inl (g1, 40, .inl fa4)), (h1, .inr (10, [.ref r0, .int 0, .int 0, .int (-1), .int 0]))] := hD
  refine lv_iinc (v := 1) (lv' := [(1, .int 1), (0, .ref h0)]) hx hb dX6_read_53 hl (k := 0) rfl (by decide) (by decide) rfl (fun ls hl => ?_)
  refine lv_goto (tgt := 32) hx hb dX6_read_56 (by decide) ?_
  refine lv_iload_n hx hb dX6_read_32 rfl (lv_at hl 0 rfl) ?_
  refine lv_bipush (v := 8) hx hb dX6_read_33 (by decide) ?_
  refine lv_icmp_ge (tgt := 59) hx hb dX6_read_35 (by decide) (fun c => absurd c (by decide)) (fun _ => ?_)
  refine va_gets hx hb hzBAG_USUAL hS hown (hts (.fieldLink RX6 50 "LeftArguments$OfficeReader" "BAG_USUAL" "[I") (List.mem_cons_of_mem _ (List.mem_append_left _ (List.mem_append_left _ (List.mem_of_getElem? (i := 16) rfl))))) (fun _ h9 => h9) dX6_read_38 ?_
  refine lv_iconst (v := 0) hx hb dX6_read_41 (by decide) ?_
  refine lv_aload_n hx hb dX6_read_42 rfl (lv_at hl 1 rfl) ?_
  refine va_get (D := (dC, dI)) (ci := 6) (v := .ref h3) (C := RX6) (T := TX6) (N := 5) hx hb hts (fun _ h => List.mem_cons_of_mem _ (List.mem_append_left _ (List.mem_append_right _ h))) hown hK hP 0 rfl rfl 2 (by decide) (hts (.fieldLink RX6 15 "LeftArguments$OfficeReader" "bags" "[I") (List.mem_cons_of_mem _ (List.mem_append_left _ (List.mem_append_left _ (List.mem_of_getElem? (i := 17) rfl))))) (fun _ h9 => h9) rfl dX6_read_43 ?_
  refine lv_iload_n hx hb dX6_read_46 rfl (lv_at hl 0 rfl) ?_
  refine lv_iconst (v := 5) hx hb dX6_read_47 (by decide) ?_
  refine lv_imul hx hb dX6_read_48 ?_
  refine lv_topi (fun tv5 etv5 => ?_)
  obtain rfl : tv5 = (5 : Int32) := etv5.trans (by first | rfl | decide)
  refine lv_iconst (v := 5) hx hb dX6_read_49 (by decide) ?_
  refine pv_copy hx hb (by rw [hml]; exact hl.1.symm) hown (hts (.methodLink RX6 36 arraycopyName) (List.mem_cons_of_mem _ (List.mem_append_left _ (List.mem_append_left _ (List.mem_of_getElem? (i := 12) rfl))))) (hts (.native arraycopyName) (List.mem_cons_of_mem _ (List.mem_append_left _ (List.mem_append_left _ (List.mem_of_getElem? (i := 13) rfl))))) (hts (.static arraycopyName) (List.mem_cons_of_mem _ (List.mem_append_left _ (List.mem_append_left _ (List.mem_of_getElem? (i := 14) rfl))))) (hts (.initialized "java/lang/System") (List.mem_cons_of_mem _ (List.mem_append_left _ (List.mem_append_left _ (List.mem_of_getElem? (i := 15) rfl))))) hK hP hD hS 2 1 (pv_X_kept hcBAG_USUAL hnBAG_USUAL hS.2.1) rfl rfl (by decide) (by decide) (by decide) (by decide) (by decide) (Nat.le_of_ble_eq_true rfl) (Nat.le_of_ble_eq_true rfl) dX6_read_50 (fun H locs fa6 hP hD hS => ?_)
  have hP : va_P (dC, dI) vwCl [(h0, .inr (6, [.ref h1, .ref h2, .ref h3, .int 0, .int 0])), (h2, .inl (g0, 4, .inl fa2)), (h3, .inl (g1, 40, .inl fa6)), (h1, .inr (10, [.ref r0, .int 0, .int 0, .int (-1), .int 0]))] H := hP
  have hD : va_D A [(h0, .inr (6, [.ref h1, .ref h2, .ref h3, .int 0, .int 0])), (h2, .inl (g0, 4, .inl fa2)), (h3, .inl (g1, 40, .inl fa6)), (h1, .inr (10, [.ref r0, .int 0, .int 0, .int (-1), .int 0]))] := hD
  refine lv_iinc (v := 2) (lv' := [(1, .int 2), (0, .ref h0)]) hx hb dX6_read_53 hl (k := 0) rfl (by decide) (by decide) rfl (fun ls hl => ?_)
  refine lv_goto (tgt := 32) hx hb dX6_read_56 (by decide) ?_
  refine lv_iload_n hx hb dX6_read_32 rfl (lv_at hl 0 rfl) ?_
  refine lv_bipush (v := 8) hx hb dX6_read_33 (by decide) ?_
  refine lv_icmp_ge (tgt := 59) hx hb dX6_read_35 (by decide) (fun c => absurd c (by decide)) (fun _ => ?_)
  refine va_gets hx hb hzBAG_USUAL hS hown (hts (.fieldLink RX6 50 "LeftArguments$OfficeReader" "BAG_USUAL" "[I") (List.mem_cons_of_mem _ (List.mem_append_left _ (List.mem_append_left _ (List.mem_of_getElem? (i := 16) rfl))))) (fun _ h9 => h9) dX6_read_38 ?_
  refine lv_iconst (v := 0) hx hb dX6_read_41 (by decide) ?_
  refine lv_aload_n hx hb dX6_read_42 rfl (lv_at hl 1 rfl) ?_
  refine va_get (D := (dC, dI)) (ci := 6) (v := .ref h3) (C := RX6) (T := TX6) (N := 5) hx hb hts (fun _ h => List.mem_cons_of_mem _ (List.mem_append_left _ (List.mem_append_right _ h))) hown hK hP 0 rfl rfl 2 (by decide) (hts (.fieldLink RX6 15 "LeftArguments$OfficeReader" "bags" "[I") (List.mem_cons_of_mem _ (List.mem_append_left _ (List.mem_append_left _ (List.mem_of_getElem? (i := 17) rfl))))) (fun _ h9 => h9) rfl dX6_read_43 ?_
  refine lv_iload_n hx hb dX6_read_46 rfl (lv_at hl 0 rfl) ?_
  refine lv_iconst (v := 5) hx hb dX6_read_47 (by decide) ?_
  refine lv_imul hx hb dX6_read_48 ?_
  refine lv_topi (fun tv7 etv7 => ?_)
  obtain rfl : tv7 = (10 : Int32) := etv7.trans (by first | rfl | decide)
  refine lv_iconst (v := 5) hx hb dX6_read_49 (by decide) ?_
  refine pv_copy hx hb (by rw [hml]; exact hl.1.symm) hown (hts (.methodLink RX6 36 arraycopyName) (List.mem_cons_of_mem _ (List.mem_append_left _ (List.mem_append_left _ (List.mem_of_getElem? (i := 12) rfl))))) (hts (.native arraycopyName) (List.mem_cons_of_mem _ (List.mem_append_left _ (List.mem_append_left _ (List.mem_of_getElem? (i := 13) rfl))))) (hts (.static arraycopyName) (List.mem_cons_of_mem _ (List.mem_append_left _ (List.mem_append_left _ (List.mem_of_getElem? (i := 14) rfl))))) (hts (.initialized "java/lang/System") (List.mem_cons_of_mem _ (List.mem_append_left _ (List.mem_append_left _ (List.mem_of_getElem? (i := 15) rfl))))) hK hP hD hS 2 1 (pv_X_kept hcBAG_USUAL hnBAG_USUAL hS.2.1) rfl rfl (by decide) (by decide) (by decide) (by decide) (by decide) (Nat.le_of_ble_eq_true rfl) (Nat.le_of_ble_eq_true rfl) dX6_read_50 (fun H locs fa8 hP hD hS => ?_)
  have hP : va_P (dC, dI) vwCl [(h0, .inr (6, [.ref h1, .ref h2, .ref h3, .int 0, .int 0])), (h2, .inl (g0, 4, .inl fa2)), (h3, .inl (g1, 40, .inl fa8)), (h1, .inr (10, [.ref r0, .int 0, .int 0, .int (-1), .int 0]))] H := hP
  have hD : va_D A [(h0, .inr (6, [.ref h1, .ref h2, .ref h3, .int 0, .int 0])), (h2, .inl (g0, 4, .inl fa2)), (h3, .inl (g1, 40, .inl fa8)), (h1, .inr (10, [.ref r0, .int 0, .int 0, .int (-1), .int 0]))] := hD
  refine lv_iinc (v := 3) (lv' := [(1, .int 3), (0, .ref h0)]) hx hb dX6_read_53 hl (k := 0) rfl (by decide) (by decide) rfl (fun ls hl => ?_)
  refine lv_goto (tgt := 32) hx hb dX6_read_56 (by decide) ?_
  refine lv_iload_n hx hb dX6_read_32 rfl (lv_at hl 0 rfl) ?_
  refine lv_bipush (v := 8) hx hb dX6_read_33 (by decide) ?_
  refine lv_icmp_ge (tgt := 59) hx hb dX6_read_35 (by decide) (fun c => absurd c (by decide)) (fun _ => ?_)
  refine va_gets hx hb hzBAG_USUAL hS hown (hts (.fieldLink RX6 50 "LeftArguments$OfficeReader" "BAG_USUAL" "[I") (List.mem_cons_of_mem _ (List.mem_append_left _ (List.mem_append_left _ (List.mem_of_getElem? (i := 16) rfl))))) (fun _ h9 => h9) dX6_read_38 ?_
  refine lv_iconst (v := 0) hx hb dX6_read_41 (by decide) ?_
  refine lv_aload_n hx hb dX6_read_42 rfl (lv_at hl 1 rfl) ?_
  refine va_get (D := (dC, dI)) (ci := 6) (v := .ref h3) (C := RX6) (T := TX6) (N := 5) hx hb hts (fun _ h => List.mem_cons_of_mem _ (List.mem_append_left _ (List.mem_append_right _ h))) hown hK hP 0 rfl rfl 2 (by decide) (hts (.fieldLink RX6 15 "LeftArguments$OfficeReader" "bags" "[I") (List.mem_cons_of_mem _ (List.mem_append_left _ (List.mem_append_left _ (List.mem_of_getElem? (i := 17) rfl))))) (fun _ h9 => h9) rfl dX6_read_43 ?_
  refine lv_iload_n hx hb dX6_read_46 rfl (lv_at hl 0 rfl) ?_
  refine lv_iconst (v := 5) hx hb dX6_read_47 (by decide) ?_
  refine lv_imul hx hb dX6_read_48 ?_
  refine lv_topi (fun tv9 etv9 => ?_)
  obtain rfl : tv9 = (15 : Int32) := etv9.trans (by first | rfl | decide)
  refine lv_iconst (v := 5) hx hb dX6_read_49 (by decide) ?_
  refine pv_copy hx hb (by rw [hml]; exact hl.1.symm) hown (hts (.methodLink RX6 36 arraycopyName) (List.mem_cons_of_mem _ (List.mem_append_left _ (List.mem_append_left _ (List.mem_of_getElem? (i := 12) rfl))))) (hts (.native arraycopyName) (List.mem_cons_of_mem _ (List.mem_append_left _ (List.mem_append_left _ (List.mem_of_getElem? (i := 13) rfl))))) (hts (.static arraycopyName) (List.mem_cons_of_mem _ (List.mem_append_left _ (List.mem_append_left _ (List.mem_of_getElem? (i := 14) rfl))))) (hts (.initialized "java/lang/System") (List.mem_cons_of_mem _ (List.mem_append_left _ (List.mem_append_left _ (List.mem_of_getElem? (i := 15) rfl))))) hK hP hD hS 2 1 (pv_X_kept hcBAG_USUAL hnBAG_USUAL hS.2.1) rfl rfl (by decide) (by decide) (by decide) (by decide) (by decide) (Nat.le_of_ble_eq_true rfl) (Nat.le_of_ble_eq_true rfl) dX6_read_50 (fun H locs fa10 hP hD hS => ?_)
  have hP : va_P (dC, dI) vwCl [(h0, .inr (6, [.ref h1, .ref h2, .ref h3, .int 0, .int 0])), (h2, .inl (g0, 4, .inl fa2)), (h3, .inl (g1, 40, .inl fa10)), (h1, .inr (10, [.ref r0, .int 0, .int 0, .int (-1), .int 0]))] H := hP
  have hD : va_D A [(h0, .inr (6, [.ref h1, .ref h2, .ref h3, .int 0, .int 0])), (h2, .inl (g0, 4, .inl fa2)), (h3, .inl (g1, 40, .inl fa10)), (h1, .inr (10, [.ref r0, .int 0, .int 0, .int (-1), .int 0]))] := hD
  refine lv_iinc (v := 4) (lv' := [(1, .int 4), (0, .ref h0)]) hx hb dX6_read_53 hl (k := 0) rfl (by decide) (by decide) rfl (fun ls hl => ?_)
  refine lv_goto (tgt := 32) hx hb dX6_read_56 (by decide) ?_
  refine lv_iload_n hx hb dX6_read_32 rfl (lv_at hl 0 rfl) ?_
  refine lv_bipush (v := 8) hx hb dX6_read_33 (by decide) ?_
  refine lv_icmp_ge (tgt := 59) hx hb dX6_read_35 (by decide) (fun c => absurd c (by decide)) (fun _ => ?_)
  refine va_gets hx hb hzBAG_USUAL hS hown (hts (.fieldLink RX6 50 "LeftArguments$OfficeReader" "BAG_USUAL" "[I") (List.mem_cons_of_mem _ (List.mem_append_left _ (List.mem_append_left _ (List.mem_of_getElem? (i := 16) rfl))))) (fun _ h9 => h9) dX6_read_38 ?_
  refine lv_iconst (v := 0) hx hb dX6_read_41 (by decide) ?_
  refine lv_aload_n hx hb dX6_read_42 rfl (lv_at hl 1 rfl) ?_
  refine va_get (D := (dC, dI)) (ci := 6) (v := .ref h3) (C := RX6) (T := TX6) (N := 5) hx hb hts (fun _ h => List.mem_cons_of_mem _ (List.mem_append_left _ (List.mem_append_right _ h))) hown hK hP 0 rfl rfl 2 (by decide) (hts (.fieldLink RX6 15 "LeftArguments$OfficeReader" "bags" "[I") (List.mem_cons_of_mem _ (List.mem_append_left _ (List.mem_append_left _ (List.mem_of_getElem? (i := 17) rfl))))) (fun _ h9 => h9) rfl dX6_read_43 ?_
  refine lv_iload_n hx hb dX6_read_46 rfl (lv_at hl 0 rfl) ?_
  refine lv_iconst (v := 5) hx hb dX6_read_47 (by decide) ?_
  refine lv_imul hx hb dX6_read_48 ?_
  refine lv_topi (fun tv11 etv11 => ?_)
  obtain rfl : tv11 = (20 : Int32) := etv11.trans (by first | rfl | decide)
  refine lv_iconst (v := 5) hx hb dX6_read_49 (by decide) ?_
  refine pv_copy hx hb (by rw [hml]; exact hl.1.symm) hown (hts (.methodLink RX6 36 arraycopyName) (List.mem_cons_of_mem _ (List.mem_append_left _ (List.mem_append_left _ (List.mem_of_getElem? (i := 12) rfl))))) (hts (.native arraycopyName) (List.mem_cons_of_mem _ (List.mem_append_left _ (List.mem_append_left _ (List.mem_of_getElem? (i := 13) rfl))))) (hts (.static arraycopyName) (List.mem_cons_of_mem _ (List.mem_append_left _ (List.mem_append_left _ (List.mem_of_getElem? (i := 14) rfl))))) (hts (.initialized "java/lang/System") (List.mem_cons_of_mem _ (List.mem_append_left _ (List.mem_append_left _ (List.mem_of_getElem? (i := 15) rfl))))) hK hP hD hS 2 1 (pv_X_kept hcBAG_USUAL hnBAG_USUAL hS.2.1) rfl rfl (by decide) (by decide) (by decide) (by decide) (by decide) (Nat.le_of_ble_eq_true rfl) (Nat.le_of_ble_eq_true rfl) dX6_read_50 (fun H locs fa12 hP hD hS => ?_)
  have hP : va_P (dC, dI) vwCl [(h0, .inr (6, [.ref h1, .ref h2, .ref h3, .int 0, .int 0])), (h2, .inl (g0, 4, .inl fa2)), (h3, .inl (g1, 40, .inl fa12)), (h1, .inr (10, [.ref r0, .int 0, .int 0, .int (-1), .int 0]))] H := hP
  have hD : va_D A [(h0, .inr (6, [.ref h1, .ref h2, .ref h3, .int 0, .int 0])), (h2, .inl (g0, 4, .inl fa2)), (h3, .inl (g1, 40, .inl fa12)), (h1, .inr (10, [.ref r0, .int 0, .int 0, .int (-1), .int 0]))] := hD
  refine lv_iinc (v := 5) (lv' := [(1, .int 5), (0, .ref h0)]) hx hb dX6_read_53 hl (k := 0) rfl (by decide) (by decide) rfl (fun ls hl => ?_)
  refine lv_goto (tgt := 32) hx hb dX6_read_56 (by decide) ?_
  refine lv_iload_n hx hb dX6_read_32 rfl (lv_at hl 0 rfl) ?_
  refine lv_bipush (v := 8) hx hb dX6_read_33 (by decide) ?_
  refine lv_icmp_ge (tgt := 59) hx hb dX6_read_35 (by decide) (fun c => absurd c (by decide)) (fun _ => ?_)
  refine va_gets hx hb hzBAG_USUAL hS hown (hts (.fieldLink RX6 50 "LeftArguments$OfficeReader" "BAG_USUAL" "[I") (List.mem_cons_of_mem _ (List.mem_append_left _ (List.mem_append_left _ (List.mem_of_getElem? (i := 16) rfl))))) (fun _ h9 => h9) dX6_read_38 ?_
  refine lv_iconst (v := 0) hx hb dX6_read_41 (by decide) ?_
  refine lv_aload_n hx hb dX6_read_42 rfl (lv_at hl 1 rfl) ?_
  refine va_get (D := (dC, dI)) (ci := 6) (v := .ref h3) (C := RX6) (T := TX6) (N := 5) hx hb hts (fun _ h => List.mem_cons_of_mem _ (List.mem_append_left _ (List.mem_append_right _ h))) hown hK hP 0 rfl rfl 2 (by decide) (hts (.fieldLink RX6 15 "LeftArguments$OfficeReader" "bags" "[I") (List.mem_cons_of_mem _ (List.mem_append_left _ (List.mem_append_left _ (List.mem_of_getElem? (i := 17) rfl))))) (fun _ h9 => h9) rfl dX6_read_43 ?_
  refine lv_iload_n hx hb dX6_read_46 rfl (lv_at hl 0 rfl) ?_
  refine lv_iconst (v := 5) hx hb dX6_read_47 (by decide) ?_
  refine lv_imul hx hb dX6_read_48 ?_
  refine lv_topi (fun tv13 etv13 => ?_)
  obtain rfl : tv13 = (25 : Int32) := etv13.trans (by first | rfl | decide)
  refine lv_iconst (v := 5) hx hb dX6_read_49 (by decide) ?_
  refine pv_copy hx hb (by rw [hml]; exact hl.1.symm) hown (hts (.methodLink RX6 36 arraycopyName) (List.mem_cons_of_mem _ (List.mem_append_left _ (List.mem_append_left _ (List.mem_of_getElem? (i := 12) rfl))))) (hts (.native arraycopyName) (List.mem_cons_of_mem _ (List.mem_append_left _ (List.mem_append_left _ (List.mem_of_getElem? (i := 13) rfl))))) (hts (.static arraycopyName) (List.mem_cons_of_mem _ (List.mem_append_left _ (List.mem_append_left _ (List.mem_of_getElem? (i := 14) rfl))))) (hts (.initialized "java/lang/System") (List.mem_cons_of_mem _ (List.mem_append_left _ (List.mem_append_left _ (List.mem_of_getElem? (i := 15) rfl))))) hK hP hD hS 2 1 (pv_X_kept hcBAG_USUAL hnBAG_USUAL hS.2.1) rfl rfl (by decide) (by decide) (by decide) (by decide) (by decide) (Nat.le_of_ble_eq_true rfl) (Nat.le_of_ble_eq_true rfl) dX6_read_50 (fun H locs fa14 hP hD hS => ?_)
  have hP : va_P (dC, dI) vwCl [(h0, .inr (6, [.ref h1, .ref h2, .ref h3, .int 0, .int 0])), (h2, .inl (g0, 4, .inl fa2)), (h3, .inl (g1, 40, .inl fa14)), (h1, .inr (10, [.ref r0, .int 0, .int 0, .int (-1), .int 0]))] H := hP
  have hD : va_D A [(h0, .inr (6, [.ref h1, .ref h2, .ref h3, .int 0, .int 0])), (h2, .inl (g0, 4, .inl fa2)), (h3, .inl (g1, 40, .inl fa14)), (h1, .inr (10, [.ref r0, .int 0, .int 0, .int (-1), .int 0]))] := hD
  refine lv_iinc (v := 6) (lv' := [(1, .int 6), (0, .ref h0)]) hx hb dX6_read_53 hl (k := 0) rfl (by decide) (by decide) rfl (fun ls hl => ?_)
  refine lv_goto (tgt := 32) hx hb dX6_read_56 (by decide) ?_
  refine lv_iload_n hx hb dX6_read_32 rfl (lv_at hl 0 rfl) ?_
  refine lv_bipush (v := 8) hx hb dX6_read_33 (by decide) ?_
  refine lv_icmp_ge (tgt := 59) hx hb dX6_read_35 (by decide) (fun c => absurd c (by decide)) (fun _ => ?_)
  refine va_gets hx hb hzBAG_USUAL hS hown (hts (.fieldLink RX6 50 "LeftArguments$OfficeReader" "BAG_USUAL" "[I") (List.mem_cons_of_mem _ (List.mem_append_left _ (List.mem_append_left _ (List.mem_of_getElem? (i := 16) rfl))))) (fun _ h9 => h9) dX6_read_38 ?_
  refine lv_iconst (v := 0) hx hb dX6_read_41 (by decide) ?_
  refine lv_aload_n hx hb dX6_read_42 rfl (lv_at hl 1 rfl) ?_
  refine va_get (D := (dC, dI)) (ci := 6) (v := .ref h3) (C := RX6) (T := TX6) (N := 5) hx hb hts (fun _ h => List.mem_cons_of_mem _ (List.mem_append_left _ (List.mem_append_right _ h))) hown hK hP 0 rfl rfl 2 (by decide) (hts (.fieldLink RX6 15 "LeftArguments$OfficeReader" "bags" "[I") (List.mem_cons_of_mem _ (List.mem_append_left _ (List.mem_append_left _ (List.mem_of_getElem? (i := 17) rfl))))) (fun _ h9 => h9) rfl dX6_read_43 ?_
  refine lv_iload_n hx hb dX6_read_46 rfl (lv_at hl 0 rfl) ?_
  refine lv_iconst (v := 5) hx hb dX6_read_47 (by decide) ?_
  refine lv_imul hx hb dX6_read_48 ?_
  refine lv_topi (fun tv15 etv15 => ?_)
  obtain rfl : tv15 = (30 : Int32) := etv15.trans (by first | rfl | decide)
  refine lv_iconst (v := 5) hx hb dX6_read_49 (by decide) ?_
  refine pv_copy hx hb (by rw [hml]; exact hl.1.symm) hown (hts (.methodLink RX6 36 arraycopyName) (List.mem_cons_of_mem _ (List.mem_append_left _ (List.mem_append_left _ (List.mem_of_getElem? (i := 12) rfl))))) (hts (.native arraycopyName) (List.mem_cons_of_mem _ (List.mem_append_left _ (List.mem_append_left _ (List.mem_of_getElem? (i := 13) rfl))))) (hts (.static arraycopyName) (List.mem_cons_of_mem _ (List.mem_append_left _ (List.mem_append_left _ (List.mem_of_getElem? (i := 14) rfl))))) (hts (.initialized "java/lang/System") (List.mem_cons_of_mem _ (List.mem_append_left _ (List.mem_append_left _ (List.mem_of_getElem? (i := 15) rfl))))) hK hP hD hS 2 1 (pv_X_kept hcBAG_USUAL hnBAG_USUAL hS.2.1) rfl rfl (by decide) (by decide) (by decide) (by decide) (by decide) (Nat.le_of_ble_eq_true rfl) (Nat.le_of_ble_eq_true rfl) dX6_read_50 (fun H locs fa16 hP hD hS => ?_)
  have hP : va_P (dC, dI) vwCl [(h0, .inr (6, [.ref h1, .ref h2, .ref h3, .int 0, .int 0])), (h2, .inl (g0, 4, .inl fa2)), (h3, .inl (g1, 40, .inl fa16)), (h1, .inr (10, [.ref r0, .int 0, .int 0, .int (-1), .int 0]))] H := hP
  have hD : va_D A [(h0, .inr (6, [.ref h1, .ref h2, .ref h3, .int 0, .int 0])), (h2, .inl (g0, 4, .inl fa2)), (h3, .inl (g1, 40, .inl fa16)), (h1, .inr (10, [.ref r0, .int 0, .int 0, .int (-1), .int 0]))] := hD
  refine lv_iinc (v := 7) (lv' := [(1, .int 7), (0, .ref h0)]) hx hb dX6_read_53 hl (k := 0) rfl (by decide) (by decide) rfl (fun ls hl => ?_)
  refine lv_goto (tgt := 32) hx hb dX6_read_56 (by decide) ?_
  refine lv_iload_n hx hb dX6_read_32 rfl (lv_at hl 0 rfl) ?_
  refine lv_bipush (v := 8) hx hb dX6_read_33 (by decide) ?_
  refine lv_icmp_ge (tgt := 59) hx hb dX6_read_35 (by decide) (fun c => absurd c (by decide)) (fun _ => ?_)
  refine va_gets hx hb hzBAG_USUAL hS hown (hts (.fieldLink RX6 50 "LeftArguments$OfficeReader" "BAG_USUAL" "[I") (List.mem_cons_of_mem _ (List.mem_append_left _ (List.mem_append_left _ (List.mem_of_getElem? (i := 16) rfl))))) (fun _ h9 => h9) dX6_read_38 ?_
  refine lv_iconst (v := 0) hx hb dX6_read_41 (by decide) ?_
  refine lv_aload_n hx hb dX6_read_42 rfl (lv_at hl 1 rfl) ?_
  refine va_get (D := (dC, dI)) (ci := 6) (v := .ref h3) (C := RX6) (T := TX6) (N := 5) hx hb hts (fun _ h => List.mem_cons_of_mem _ (List.mem_append_left _ (List.mem_append_right _ h))) hown hK hP 0 rfl rfl 2 (by decide) (hts (.fieldLink RX6 15 "LeftArguments$OfficeReader" "bags" "[I") (List.mem_cons_of_mem _ (List.mem_append_left _ (List.mem_append_left _ (List.mem_of_getElem? (i := 17) rfl))))) (fun _ h9 => h9) rfl dX6_read_43 ?_
  refine lv_iload_n hx hb dX6_read_46 rfl (lv_at hl 0 rfl) ?_
  refine lv_iconst (v := 5) hx hb dX6_read_47 (by decide) ?_
  refine lv_imul hx hb dX6_read_48 ?_
  refine lv_topi (fun tv17 etv17 => ?_)
  obtain rfl : tv17 = (35 : Int32) := etv17.trans (by first | rfl | decide)
  refine lv_iconst (v := 5) hx hb dX6_read_49 (by decide) ?_
  refine pv_copy hx hb (by rw [hml]; exact hl.1.symm) hown (hts (.methodLink RX6 36 arraycopyName) (List.mem_cons_of_mem _ (List.mem_append_left _ (List.mem_append_left _ (List.mem_of_getElem? (i := 12) rfl))))) (hts (.native arraycopyName) (List.mem_cons_of_mem _ (List.mem_append_left _ (List.mem_append_left _ (List.mem_of_getElem? (i := 13) rfl))))) (hts (.static arraycopyName) (List.mem_cons_of_mem _ (List.mem_append_left _ (List.mem_append_left _ (List.mem_of_getElem? (i := 14) rfl))))) (hts (.initialized "java/lang/System") (List.mem_cons_of_mem _ (List.mem_append_left _ (List.mem_append_left _ (List.mem_of_getElem? (i := 15) rfl))))) hK hP hD hS 2 1 (pv_X_kept hcBAG_USUAL hnBAG_USUAL hS.2.1) rfl rfl (by decide) (by decide) (by decide) (by decide) (by decide) (Nat.le_of_ble_eq_true rfl) (Nat.le_of_ble_eq_true rfl) dX6_read_50 (fun H locs fa18 hP hD hS => ?_)
  have hP : va_P (dC, dI) vwCl [(h0, .inr (6, [.ref h1, .ref h2, .ref h3, .int 0, .int 0])), (h2, .inl (g0, 4, .inl fa2)), (h3, .inl (g1, 40, .inl fa18)), (h1, .inr (10, [.ref r0, .int 0, .int 0, .int (-1), .int 0]))] H := hP
  have hD : va_D A [(h0, .inr (6, [.ref h1, .ref h2, .ref h3, .int 0, .int 0])), (h2, .inl (g0, 4, .inl fa2)), (h3, .inl (g1, 40, .inl fa18)), (h1, .inr (10, [.ref r0, .int 0, .int 0, .int (-1), .int 0]))] := hD
  refine lv_iinc (v := 8) (lv' := [(1, .int 8), (0, .ref h0)]) hx hb dX6_read_53 hl (k := 0) rfl (by decide) (by decide) rfl (fun ls hl => ?_)
  refine lv_goto (tgt := 32) hx hb dX6_read_56 (by decide) ?_
  refine lv_iload_n hx hb dX6_read_32 rfl (lv_at hl 0 rfl) ?_
  refine lv_bipush (v := 8) hx hb dX6_read_33 (by decide) ?_
  refine lv_icmp_ge (tgt := 59) hx hb dX6_read_35 (by decide) (fun _ => ?_) (fun c => absurd (by decide) c)
  refine lv_iconst (v := 0) hx hb dX6_read_59 (by decide) ?_
  refine lv_istore_n (lv' := [(1, .int 0), (0, .ref h0)]) hx hb dX6_read_60 rfl hl (by decide) rfl (fun ls hl => ?_)
  refine lv_iload_n hx hb dX6_read_61 rfl (lv_at hl 0 rfl) ?_
  refine lv_sipush (v := 240) hx hb dX6_read_62 (by decide) ?_
  refine lv_icmp_gt (tgt := 126) hx hb dX6_read_65 (by decide) (fun c => absurd c (by decide)) (fun _ => ?_)
  refine lv_aload_n hx hb dX6_read_68 rfl (lv_at hl 1 rfl) ?_
  have hPc := hP.sub (ws' := [(h0, .inr (6, [.ref h1, .ref h2, .ref h3, .int 0, .int 0])), (h1, .inr (10, [.ref r0, .int 0, .int 0, .int (-1), .int 0]))]) [0, 3] rfl
  have hDc := hD.sub (ws' := [(h0, .inr (6, [.ref h1, .ref h2, .ref h3, .int 0, .int 0])), (h1, .inr (10, [.ref r0, .int 0, .int 0, .int (-1), .int 0]))]) [0, 3] (by decide) rfl
  have hKc := hK.sub (tys' := []) [] rfl
  have hFc := va_free (wc := [(h0, .inr (6, [.ref h1, .ref h2, .ref h3, .int 0, .int 0])), (h1, .inr (10, [.ref r0, .int 0, .int 0, .int (-1), .int 0]))]) hD hS hA [0, 3] rfl
  refine va_calli (va_runV (As := []) (rest := []) ⟨hx, hb, hml, hown, hts⟩ (k_X6_readClause l dC dI h0 h1 h2 h3 r0  H.size) (cwV 0 hts g_X6_read_1 rfl rfl rfl (by decide +kernel) ⟨Nat.le_of_ble_eq_true rfl, Nat.le_of_ble_eq_true rfl⟩) ⟨fun a U g mk q => by obtain ⟨q0, q1, qP, qK, qD⟩ := q; exact ⟨q0, q1, qP, va_K.moved (u := U) (U := U.calling g mk a) (Vm.Alike.refl U.vm) qK, qD⟩, va_recv hKc hPc (ci := 6) (q0 := 0) rfl rfl, fun U hU hW => ⟨rfl, by rw [hU], by rw [hU]; exact hPc, va_K.moved hW.alike hKc, hDc.weaken (fun _ _ _ _ => trivial)⟩⟩ rfl rfl hl.1 rfl (lv_room (Nat.le_of_ble_eq_true rfl)) dX6_read_69 ⟨Nat.le_of_ble_eq_true rfl, Nat.le_of_ble_eq_true rfl⟩) hS (fun q _ h => hFc q h) hFc (fun ra19 u t H1 locs ht hvm hw hB hz1 hk1 hS => ?_)
  obtain ⟨hP1, hK1, hD1⟩ := hB
  rw [ht] at hP1
  obtain ⟨hP, hD⟩ := va_join (wr := [(h2, .inl (g0, 4, .inl fa2)), (h3, .inl (g1, 40, .inl fa18))]) (w1 := [(h0, .inr (6, [.ref h1, .ref h2, .ref h3, .int 0, .int 0])), (h1, .inr (10, [.ref r0, .int 0, .int 0, .int 0, .int 0]))]) hP hD [0, 3] [1, 2] rfl rfl (by decide) (by decide) hk1 hFc hP1 hD1
  generalize H1 = H at hP hS ⊢
  have hP : va_P (dC, dI) vwCl [(h2, .inl (g0, 4, .inl fa2)), (h3, .inl (g1, 40, .inl fa18)), (h0, .inr (6, [.ref h1, .ref h2, .ref h3, .int 0, .int 0])), (h1, .inr (10, [.ref r0, .int 0, .int 0, .int 0, .int 0]))] H := hP
  have hD : va_D A [(h2, .inl (g0, 4, .inl fa2)), (h3, .inl (g1, 40, .inl fa18)), (h0, .inr (6, [.ref h1, .ref h2, .ref h3, .int 0, .int 0])), (h1, .inr (10, [.ref r0, .int 0, .int 0, .int 0, .int 0]))] := hD
  obtain rfl : ra19 = (0 : Int32) := hw
  refine lv_if_ne (tgt := 83) hx hb dX6_read_72 (by decide) (fun c => absurd (by decide) c) (fun _ => ?_)
  refine lv_aload_n hx hb dX6_read_75 rfl (lv_at hl 1 rfl) ?_
  refine va_get (D := (dC, dI)) (ci := 6) (v := .ref h1) (C := RX6) (T := TX6) (N := 5) hx hb hts (fun _ h => List.mem_cons_of_mem _ (List.mem_append_left _ (List.mem_append_right _ h))) hown hK hP 2 rfl rfl 0 (by decide) (hts (.fieldLink RX6 26 "LeftArguments$OfficeReader" "tape" "LLeftArguments$Tape;") (List.mem_cons_of_mem _ (List.mem_append_left _ (List.mem_append_left _ (List.mem_of_getElem? (i := 0) rfl))))) (fun _ h9 => h9) rfl dX6_read_76 ?_
  have hPc := hP.sub (ws' := [(h1, .inr (10, [.ref r0, .int 0, .int 0, .int 0, .int 0]))]) [3] rfl
  have hDc := hD.sub (ws' := [(h1, .inr (10, [.ref r0, .int 0, .int 0, .int 0, .int 0]))]) [3] (by decide) rfl
  have hKc := hK.sub (tys' := []) [] rfl
  have hFc := va_free (wc := [(h1, .inr (10, [.ref r0, .int 0, .int 0, .int 0, .int 0]))]) hD hS hA [3] rfl
  refine va_calli (va_runV (As := []) (rest := []) ⟨hx, hb, hml, hown, hts⟩ (k_X10_wrongAt l dC dI h1 r0  H.size) (cwV 0 hts g_X6_read_2 rfl rfl rfl (by decide +kernel) ⟨Nat.le_of_ble_eq_true rfl, Nat.le_of_ble_eq_true rfl⟩) ⟨fun a U g mk q => by obtain ⟨q0, q1, qP, qK, qD⟩ := q; exact ⟨q0, q1, qP, va_K.moved (u := U) (U := U.calling g mk a) (Vm.Alike.refl U.vm) qK, qD⟩, va_recv hKc hPc (ci := 10) (q0 := 0) rfl rfl, fun U hU hW => ⟨rfl, by rw [hU], by rw [hU]; exact hPc, va_K.moved hW.alike hKc, hDc.weaken (fun _ _ _ _ => trivial)⟩⟩ rfl rfl hl.1 rfl (lv_room (Nat.le_of_ble_eq_true rfl)) dX6_read_79 ⟨Nat.le_of_ble_eq_true rfl, Nat.le_of_ble_eq_true rfl⟩) hS (fun q _ h => hFc q h) hFc (fun ra20 u t H1 locs ht hvm hw hB hz1 hk1 hS => ?_)
  obtain ⟨hP1, hK1, hD1⟩ := hB
  rw [ht] at hP1
  obtain ⟨hP, hD⟩ := va_join (wr := [(h2, .inl (g0, 4, .inl fa2)), (h3, .inl (g1, 40, .inl fa18)), (h0, .inr (6, [.ref h1, .ref h2, .ref h3, .int 0, .int 0]))]) (w1 := [(h1, .inr (10, [.ref r0, .int 0, .int 0, .int 0, .int 0]))]) hP hD [3] [0, 1, 2] rfl rfl (by decide) (by decide) hk1 hFc hP1 hD1
  generalize H1 = H at hP hS ⊢
  have hP : va_P (dC, dI) vwCl [(h2, .inl (g0, 4, .inl fa2)), (h3, .inl (g1, 40, .inl fa18)), (h0, .inr (6, [.ref h1, .ref h2, .ref h3, .int 0, .int 0])), (h1, .inr (10, [.ref r0, .int 0, .int 0, .int 0, .int 0]))] H := hP
  have hD : va_D A [(h2, .inl (g0, 4, .inl fa2)), (h3, .inl (g1, 40, .inl fa18)), (h0, .inr (6, [.ref h1, .ref h2, .ref h3, .int 0, .int 0])), (h1, .inr (10, [.ref r0, .int 0, .int 0, .int 0, .int 0]))] := hD
  obtain rfl : ra20 = (0 : Int32) := hw
  have hP9 := hP.sub (ws' := [(h2, .inl (g0, 4, .inl fa2)), (h3, .inl (g1, 40, .inl fa18)), (h0, .inr (6, [.ref h1, .ref h2, .ref h3, .int 0, .int 0])), (h1, .inr (10, [.ref r0, .int 0, .int 0, .int 0, .int 0]))]) [0, 1, 2, 3] rfl
  have hD9 := hD.sub (ws' := [(h2, .inl (g0, 4, .inl fa2)), (h3, .inl (g1, 40, .inl fa18)), (h0, .inr (6, [.ref h1, .ref h2, .ref h3, .int 0, .int 0])), (h1, .inr (10, [.ref r0, .int 0, .int 0, .int 0, .int 0]))]) [0, 1, 2, 3] (by decide) rfl
  have hK9 := hK.sub (tys' := [(g0, .int), (g1, .int)]) [0, 1] rfl
  exact W.iret (v := 0) hx hb hr (fun t ht hW => ⟨⟨0, (), rfl, rfl, fa2, fa18, by rw [ht]; exact hP9, va_K.moved hW.alike hK9, hD9⟩, hS.F ht⟩) hS.2.2 dX6_read_82
def q_X11_fault : List Cond := .code yX11_fault cX11_fault 2 (some .int) :: (([.fieldLink RX11 28 "LeftArguments" "lawReader" "LLeftArguments$LawReader;", .code yX3_read cX3_read 2 (some .int), .fieldLink RX3 19 "LeftArguments$LawReader" "tape" "LLeftArguments$Tape;", .code yX10_rewind cX10_rewind 1 none, .fieldLink RX10 19 "LeftArguments$Tape" "at" "I", .fieldLink RX10 22 "LeftArguments$Tape" "wrongAt" "I", .initialized RX10, .instanceMethod yX10_rewind, .selects RX10 yX10_rewind yX10_rewind, .methodLink RX3 35 yX10_rewind, .fieldLink RX3 15 "LeftArguments$LawReader" "used" "I", .code yX3_readClause cX3_readClause 4 (some .boolean), .code yX10_take cX10_take 2 (some .boolean), .code yX10_next cX10_next 1 (some .int), .fieldLink RX10 15 "LeftArguments$Tape" "used" "I", .instanceMethod yX10_next, .selects RX10 yX10_next yX10_next, .methodLink RX10 37 yX10_next, .code yX10_wrongHere cX10_wrongHere 1 (some .boolean), .instanceMethod yX10_wrongHere, .selects RX10 yX10_wrongHere yX10_wrongHere, .methodLink RX10 41 yX10_wrongHere, .instanceMethod yX10_take, .selects RX10 yX10_take yX10_take, .methodLink RX3 51 yX10_take, .initialized RX3, .instanceMethod yX3_readClause, .selects RX3 yX3_readClause yX3_readClause, .methodLink RX3 40 yX3_readClause, .code yX10_wrongAt cX10_wrongAt 1 (some .int), .instanceMethod yX10_wrongAt, .selects RX10 yX10_wrongAt yX10_wrongAt, .methodLink RX3 44 yX10_wrongAt, .instanceMethod yX3_read, .selects RX3 yX3_read yX3_read, .methodLink RX11 130 yX3_read, .fieldLink RX11 21 "LeftArguments" "officeReader" "LLeftArguments$OfficeReader;", .code yX6_read cX6_read 2 (some .int), .fieldLink RX6 26 "LeftArguments$OfficeReader" "tape" "LLeftArguments$Tape;", .methodLink RX6 42 yX10_rewind, .fieldLink RX6 18 "LeftArguments$OfficeReader" "rulesTold" "Z", .fieldLink RX6 22 "LeftArguments$OfficeReader" "bagCount" "I", .fieldLink RX6 47 "LeftArguments$OfficeReader" "RULE_USUAL" "[I", .fieldLink RX6 11 "LeftArguments$OfficeReader" "rules" "[I", .methodLink RX6 36 arraycopyName, .native arraycopyName, .static arraycopyName, .initialized "java/lang/System", .fieldLink RX6 50 "LeftArguments$OfficeReader" "BAG_USUAL" "[I", .fieldLink RX6 15 "LeftArguments$OfficeReader" "bags" "[I", .code yX6_readClause cX6_readClause 3 (some .boolean), .methodLink RX6 61 yX10_next, .methodLink RX6 93 yX10_wrongHere, .initialized RX6, .instanceMethod yX6_readClause, .selects RX6 yX6_readClause yX6_readClause, .methodLink RX6 53 yX6_readClause, .methodLink RX6 57 yX10_wrongAt, .instanceMethod yX6_read, .selects RX6 yX6_read yX6_read, .methodLink RX11 127 yX6_read] : List Cond) ++ wsX110 ++ wsX30 ++ wsX100 ++ wsX60)
set_option maxRecDepth 20000 in
theorem g_X11_fault_0 : GoodIn q_X11_fault (wsV RX11 130 RX3 yX3_read q_X3_read) := goodIn_app (goodIn_r _ [36, 34, 35, 26] (by decide +kernel) (by decide +kernel)) (goodIn_ca (goodIn_ca (goodIn_r (.code yX3_read cX3_read 2 (some .int) :: [.fieldLink RX3 19 "LeftArguments$LawReader" "tape" "LLeftArguments$Tape;", .code yX10_rewind cX10_rewind 1 none, .fieldLink RX10 19 "LeftArguments$Tape" "at" "I", .fieldLink RX10 22 "LeftArguments$Tape" "wrongAt" "I", .initialized RX10, .instanceMethod yX10_rewind, .selects RX10 yX10_rewind yX10_rewind, .methodLink RX3 35 yX10_rewind, .fieldLink RX3 15 "LeftArguments$LawReader" "used" "I", .code yX3_readClause cX3_readClause 4 (some .boolean), .code yX10_take cX10_take 2 (some .boolean), .code yX10_next cX10_next 1 (some .int), .fieldLink RX10 15 "LeftArguments$Tape" "used" "I", .instanceMethod yX10_next, .selects RX10 yX10_next yX10_next, .methodLink RX10 37 yX10_next, .code yX10_wrongHere cX10_wrongHere 1 (some .boolean), .instanceMethod yX10_wrongHere, .selects RX10 yX10_wrongHere yX10_wrongHere, .methodLink RX10 41 yX10_wrongHere, .instanceMethod yX10_take, .selects RX10 yX10_take yX10_take, .methodLink RX3 51 yX10_take, .initialized RX3, .instanceMethod yX3_readClause, .selects RX3 yX3_readClause yX3_readClause, .methodLink RX3 40 yX3_readClause, .code yX10_wrongAt cX10_wrongAt 1 (some .int), .instanceMethod yX10_wrongAt, .selects RX10 yX10_wrongAt yX10_wrongAt, .methodLink RX3 44 yX10_wrongAt]) [2, 3, 4, 5, 6, 7, 8, 9, 10, 11, 12, 13, 14, 15, 16, 17, 18, 19, 20, 21, 22, 23, 24, 25, 26, 27, 28, 29, 30, 31, 32, 33] (by decide +kernel) (by decide +kernel)) (goodIn_sub (fun _ h => List.mem_cons_of_mem _ (List.mem_append_left _ (List.mem_append_left _ (List.mem_append_right _ h)))) gwX3)) (goodIn_sub (fun _ h => List.mem_cons_of_mem _ (List.mem_append_left _ (List.mem_append_right _ h))) gwX10))
set_option maxRecDepth 20000 in
theorem g_X11_fault_1 : GoodIn q_X11_fault (wsV RX11 127 RX6 yX6_read q_X6_read) := goodIn_app (goodIn_r _ [61, 59, 60, 54] (by decide +kernel) (by decide +kernel)) (goodIn_ca (goodIn_ca (goodIn_r (.code yX6_read cX6_read 2 (some .int) :: [.fieldLink RX6 26 "LeftArguments$OfficeReader" "tape" "LLeftArguments$Tape;", .code yX10_rewind cX10_rewind 1 none, .fieldLink RX10 19 "LeftArguments$Tape" "at" "I", .fieldLink RX10 22 "LeftArguments$Tape" "wrongAt" "I", .initialized RX10, .instanceMethod yX10_rewind, .selects RX10 yX10_rewind yX10_rewind, .methodLink RX6 42 yX10_rewind, .fieldLink RX6 18 "LeftArguments$OfficeReader" "rulesTold" "Z", .fieldLink RX6 22 "LeftArguments$OfficeReader" "bagCount" "I", .fieldLink RX6 47 "LeftArguments$OfficeReader" "RULE_USUAL" "[I", .fieldLink RX6 11 "LeftArguments$OfficeReader" "rules" "[I", .methodLink RX6 36 arraycopyName, .native arraycopyName, .static arraycopyName, .initialized "java/lang/System", .fieldLink RX6 50 "LeftArguments$OfficeReader" "BAG_USUAL" "[I", .fieldLink RX6 15 "LeftArguments$OfficeReader" "bags" "[I", .code yX6_readClause cX6_readClause 3 (some .boolean), .code yX10_next cX10_next 1 (some .int), .fieldLink RX10 15 "LeftArguments$Tape" "used" "I", .instanceMethod yX10_next, .selects RX10 yX10_next yX10_next, .methodLink RX6 61 yX10_next, .code yX10_wrongHere cX10_wrongHere 1 (some .boolean), .instanceMethod yX10_wrongHere, .selects RX10 yX10_wrongHere yX10_wrongHere, .methodLink RX6 93 yX10_wrongHere, .initialized RX6, .instanceMethod yX6_readClause, .selects RX6 yX6_readClause yX6_readClause, .methodLink RX6 53 yX6_readClause, .code yX10_wrongAt cX10_wrongAt 1 (some .int), .instanceMethod yX10_wrongAt, .selects RX10 yX10_wrongAt yX10_wrongAt, .methodLink RX6 57 yX10_wrongAt]) [38, 39, 4, 5, 6, 7, 8, 9, 40, 41, 42, 43, 44, 45, 46, 47, 48, 49, 50, 51, 14, 15, 16, 17, 52, 19, 20, 21, 53, 54, 55, 56, 57, 30, 31, 32, 58] (by decide +kernel) (by decide +kernel)) (goodIn_sub (fun _ h => List.mem_cons_of_mem _ (List.mem_append_right _ h)) gwX6)) (goodIn_sub (fun _ h => List.mem_cons_of_mem _ (List.mem_append_left _ (List.mem_append_right _ h))) gwX10))
set_option maxHeartbeats 4000000 in
set_option maxRecDepth 100000 in
theorem k_X11_fault (l : Launch) (dC : Nat → ClassId) (dI : Nat → Nat → Nat) (g0 g1 : ClassId) (h0 h1 h2 h3 h4 h5 : Nat) (r0 r1 r2 r3 r4 r5 r6 r7 r8 r9 r10 r11 r12 : Nat) (v0 : Int32) (sz : Nat) : Met l yX11_fault q_X11_fault ({ frames := 4, cells := 0, slots := 0, locals := 85 }) (va_Pc [.ref h0, .int v0] (fun U => U.heap.size = sz ∧ va_P (dC, dI) vwCl [(h0, .inr (11, [.ref h1, .ref h2, .ref h5, .ref r0, .ref r1, .ref r2, .ref r3, .ref r4, .ref r5, .ref r6, .ref r7, .ref r8, .ref r9, .ref r10, .int 0, .int 5, .long 0])), (h1, .inr (10, [.ref r11, .int 0, .int 0, .int (-1), .int 0])), (h2, .inr (6, [.ref h1, .ref h3, .ref h4, .int 0, .int 0])), (h3, .inl (g0, 4, .inl (fun _ => 0))), (h4, .inl (g1, 40, .inl (fun _ => 0))), (h5, .inr (3, [.ref h1, .ref r12, .int 0]))] U.heap ∧ va_K (dC, dI) vwCl [(g0, .int), (g1, .int)] U ∧ va_D (fun _ => True) [(h0, .inr (11, [.ref h1, .ref h2, .ref h5, .ref r0, .ref r1, .ref r2, .ref r3, .ref r4, .ref r5, .ref r6, .ref r7, .ref r8, .ref r9, .ref r10, .int 0, .int 5, .long 0])), (h1, .inr (10, [.ref r11, .int 0, .int 0, .int (-1), .int 0])), (h2, .inr (6, [.ref h1, .ref h3, .ref h4, .int 0, .int 0])), (h3, .inl (g0, 4, .inl (fun _ => 0))), (h4, .inl (g1, 40, .inl (fun _ => 0))), (h5, .inr (3, [.ref h1, .ref r12, .int 0]))] ∧ pv_St "RULE_USUAL" 4 (va_A [(h0, .inr (11, [.ref h1, .ref h2, .ref h5, .ref r0, .ref r1, .ref r2, .ref r3, .ref r4, .ref r5, .ref r6, .ref r7, .ref r8, .ref r9, .ref r10, .int 0, .int 5, .long 0])), (h1, .inr (10, [.ref r11, .int 0, .int 0, .int (-1), .int 0])), (h2, .inr (6, [.ref h1, .ref h3, .ref h4, .int 0, .int 0])), (h3, .inl (g0, 4, .inl (fun _ => 0))), (h4, .inl (g1, 40, .inl (fun _ => 0))), (h5, .inr (3, [.ref h1, .ref r12, .int 0]))] sz) U U.heap ∧ pv_St "BAG_USUAL" 5 (va_A [(h0, .inr (11, [.ref h1, .ref h2, .ref h5, .ref r0, .ref r1, .ref r2, .ref r3, .ref r4, .ref r5, .ref r6, .ref r7, .ref r8, .ref r9, .ref r10, .int 0, .int 5, .long 0])), (h1, .inr (10, [.ref r11, .int 0, .int 0, .int (-1), .int 0])), (h2, .inr (6, [.ref h1, .ref h3, .ref h4, .int 0, .int 0])), (h3, .inl (g0, 4, .inl (fun _ => 0))), (h4, .inl (g1, 40, .inl (fun _ => 0))), (h5, .inr (3, [.ref h1, .ref r12, .int 0]))] sz) U U.heap)) (va_Qi (fun (r : Int32) (_ : Unit) => r = (if v0 = 0 then 0 else (if v0 = 1 then 0 else (-2)))) (fun (_ : Unit) (t : State) => va_P (dC, dI) vwCl [(h0, .inr (11, [.ref h1, .ref h2, .ref h5, .ref r0, .ref r1, .ref r2, .ref r3, .ref r4, .ref r5, .ref r6, .ref r7, .ref r8, .ref r9, .ref r10, .int 0, .int 5, .long 0])), (h5, .inr (3, [.ref h1, .ref r12, .int 0])), (h2, .inr (6, [.ref h1, .ref h3, .ref h4, .int 0, .int 0]))] t.heap ∧ va_K (dC, dI) vwCl [] t ∧ va_D (va_A [(h0, .inr (11, [.ref h1, .ref h2, .ref h5, .ref r0, .ref r1, .ref r2, .ref r3, .ref r4, .ref r5, .ref r6, .ref r7, .ref r8, .ref r9, .ref r10, .int 0, .int 5, .long 0])), (h1, .inr (10, [.ref r11, .int 0, .int 0, .int (-1), .int 0])), (h2, .inr (6, [.ref h1, .ref h3, .ref h4, .int 0, .int 0])), (h3, .inl (g0, 4, .inl (fun _ => 0))), (h4, .inl (g1, 40, .inl (fun _ => 0))), (h5, .inr (3, [.ref h1, .ref r12, .int 0]))] sz) [(h0, .inr (11, [.ref h1, .ref h2, .ref h5, .ref r0, .ref r1, .ref r2, .ref r3, .ref r4, .ref r5, .ref r6, .ref r7, .ref r8, .ref r9, .ref r10, .int 0, .int 5, .long 0])), (h5, .inr (3, [.ref h1, .ref r12, .int 0])), (h2, .inr (6, [.ref h1, .ref h3, .ref h4, .int 0, .int 0]))]) (va_A [(h0, .inr (11, [.ref h1, .ref h2, .ref h5, .ref r0, .ref r1, .ref r2, .ref r3, .ref r4, .ref r5, .ref r6, .ref r7, .ref r8, .ref r9, .ref r10, .int 0, .int 5, .long 0])), (h1, .inr (10, [.ref r11, .int 0, .int 0, .int (-1), .int 0])), (h2, .inr (6, [.ref h1, .ref h3, .ref h4, .int 0, .int 0])), (h3, .inl (g0, 4, .inl (fun _ => 0))), (h4, .inl (g1, 40, .inl (fun _ => 0))), (h5, .inr (3, [.ref h1, .ref r12, .int 0]))] sz)) 0 0 (va_A [(h0, .inr (11, [.ref h1, .ref h2, .ref h5, .ref r0, .ref r1, .ref r2, .ref r3, .ref r4, .ref r5, .ref r6, .ref r7, .ref r8, .ref r9, .ref r10, .int 0, .int 5, .long 0])), (h1, .inr (10, [.ref r11, .int 0, .int 0, .int (-1), .int 0])), (h2, .inr (6, [.ref h1, .ref h3, .ref h4, .int 0, .int 0])), (h3, .inl (g0, 4, .inl (fun _ => 0))), (h4, .inl (g1, 40, .inl (fun _ => 0))), (h5, .inr (3, [.ref h1, .ref r12, .int 0]))] sz) := by
  refine Met.ofW (cc := cX11_fault) (maxL := 2) (ret := (some .int)) (by decide) rfl ?_
  intro p e s m args below meth c s₁ B hml hv
  obtain ⟨rfl, hsz, hP, hK, hD0, h_st_RULE_USUAL, h_st_BAG_USUAL⟩ := hv
  have hx := B.exec
  have hb := B.bytes
  have hr := B.returns
  have hts := atoms_spec (ws := q_X11_fault) B.pre
  have hown : s.vm.findClass RX11 = some m.cls := findClass_of_methodNamed B.named
  have hlocks := B.notSynchronized
  subst hsz
  have hD := hD0.self (sz := s.heap.size)
  generalize hAe : va_A [(h0, .inr (11, [.ref h1, .ref h2, .ref h5, .ref r0, .ref r1, .ref r2, .ref r3, .ref r4, .ref r5, .ref r6, .ref r7, .ref r8, .ref r9, .ref r10, .int 0, .int 5, .long 0])), (h1, .inr (10, [.ref r11, .int 0, .int 0, .int (-1), .int 0])), (h2, .inr (6, [.ref h1, .ref h3, .ref h4, .int 0, .int 0])), (h3, .inl (g0, 4, .inl (fun _ => 0))), (h4, .inl (g1, 40, .inl (fun _ => 0))), (h5, .inr (3, [.ref h1, .ref r12, .int 0]))] s.heap.size = A at hD h_st_RULE_USUAL h_st_BAG_USUAL ⊢
  have hA : ∀ q : Nat, s.heap.size ≤ q → A q := fun q h => by rw [← hAe]; exact Or.inr h
  have hS : va_S A s.heap s.heap [] := va_S.rf
  have hl := lv_entry ([.ref h0, .int v0]) (n := 2) (Nat.le_of_ble_eq_true rfl)
  rw [lg_entry_eq]
  generalize (lg_sl ([.ref h0, .int v0]) ++ List.replicate (2 - (lg_sl ([.ref h0, .int v0])).length) Slot.unset).toArray = ls at hl ⊢
  have hl : lv_has ls 2 [(0, .ref h0), (1, .int v0)] := hl
  refine lv_iload_n hx hb dX11_fault_0 rfl (lv_at hl 1 rfl) ?_
  refine lv_if_ne (tgt := 12) hx hb dX11_fault_1 (by decide) (fun c1 => ?_) (fun c1 => ?_)
  · skip
    refine lv_iload_n hx hb dX11_fault_12 rfl (lv_at hl 1 rfl) ?_
    refine lv_iconst (v := 1) hx hb dX11_fault_13 (by decide) ?_
    refine lv_icmp_ne (tgt := 27) hx hb dX11_fault_14 (by decide) (fun c2 => ?_) (fun c2 => ?_)
    · skip
      refine lv_bipush (v := (-2)) hx hb dX11_fault_27 (by decide) ?_
      have hP9 := hP.sub (ws' := [(h0, .inr (11, [.ref h1, .ref h2, .ref h5, .ref r0, .ref r1, .ref r2, .ref r3, .ref r4, .ref r5, .ref r6, .ref r7, .ref r8, .ref r9, .ref r10, .int 0, .int 5, .long 0])), (h5, .inr (3, [.ref h1, .ref r12, .int 0])), (h2, .inr (6, [.ref h1, .ref h3, .ref h4, .int 0, .int 0]))]) [0, 5, 2] rfl
      have hD9 := hD.sub (ws' := [(h0, .inr (11, [.ref h1, .ref h2, .ref h5, .ref r0, .ref r1, .ref r2, .ref r3, .ref r4, .ref r5, .ref r6, .ref r7, .ref r8, .ref r9, .ref r10, .int 0, .int 5, .long 0])), (h5, .inr (3, [.ref h1, .ref r12, .int 0])), (h2, .inr (6, [.ref h1, .ref h3, .ref h4, .int 0, .int 0]))]) [0, 5, 2] (by decide) rfl
      have hK9 := hK.sub (tys' := []) [] rfl
      exact W.iret (v := (-2)) hx hb hr (fun t ht hW => ⟨⟨(-2), (), rfl, by rw [if_neg c1, if_neg c2], by rw [ht]; exact hP9, va_K.moved hW.alike hK9, hD9⟩, hS.F ht⟩) hS.2.2 dX11_fault_29
    · skip
      refine lv_aload_n hx hb dX11_fault_17 rfl (lv_at hl 0 rfl) ?_
      refine va_get (D := (dC, dI)) (ci := 11) (v := .ref h5) (C := RX11) (T := TX11) (N := 17) hx hb hts (fun _ h => List.mem_cons_of_mem _ (List.mem_append_left _ (List.mem_append_left _ (List.mem_append_left _ (List.mem_append_right _ h))))) hown hK hP 0 rfl rfl 2 (by decide) (hts (.fieldLink RX11 28 "LeftArguments" "lawReader" "LLeftArguments$LawReader;") (List.mem_cons_of_mem _ (List.mem_append_left _ (List.mem_append_left _ (List.mem_append_left _ (List.mem_append_left _ (List.mem_of_getElem? (i := 0) rfl))))))) (fun _ h9 => h9) rfl dX11_fault_18 ?_
      have hPc := hP.sub (ws' := [(h5, .inr (3, [.ref h1, .ref r12, .int 0])), (h1, .inr (10, [.ref r11, .int 0, .int 0, .int (-1), .int 0]))]) [5, 1] rfl
      have hDc := hD.sub (ws' := [(h5, .inr (3, [.ref h1, .ref r12, .int 0])), (h1, .inr (10, [.ref r11, .int 0, .int 0, .int (-1), .int 0]))]) [5, 1] (by decide) rfl
      have hKc := hK.sub (tys' := []) [] rfl
      have hFc := va_free (wc := [(h5, .inr (3, [.ref h1, .ref r12, .int 0])), (h1, .inr (10, [.ref r11, .int 0, .int 0, .int (-1), .int 0]))]) hD hS hA [5, 1] rfl
      refine va_calli (va_runV (As := []) (rest := []) ⟨hx, hb, hml, hown, hts⟩ (k_X3_read l dC dI h5 h1 r12 r11  s.heap.size) (cwV 0 hts g_X11_fault_0 rfl rfl rfl (by decide +kernel) ⟨Nat.le_of_ble_eq_true rfl, Nat.le_of_ble_eq_true rfl⟩) ⟨fun a U g mk q => by obtain ⟨q0, q1, qP, qK, qD⟩ := q; exact ⟨q0, q1, qP, va_K.moved (u := U) (U := U.calling g mk a) (Vm.Alike.refl U.vm) qK, qD⟩, va_recv hKc hPc (ci := 3) (q0 := 0) rfl rfl, fun U hU hW => ⟨rfl, by rw [hU], by rw [hU]; exact hPc, va_K.moved hW.alike hKc, hDc.weaken (fun _ _ _ _ => trivial)⟩⟩ rfl rfl hl.1 rfl (lv_room (Nat.le_of_ble_eq_true rfl)) dX11_fault_21 ⟨Nat.le_of_ble_eq_true rfl, Nat.le_of_ble_eq_true rfl⟩) hS (fun q _ h => hFc q h) hFc (fun ra3 u t H1 locs ht hvm hw hB hz1 hk1 hS => ?_)
      obtain ⟨hP1, hK1, hD1⟩ := hB
      rw [ht] at hP1
      obtain ⟨hP, hD⟩ := va_join (wr := [(h0, .inr (11, [.ref h1, .ref h2, .ref h5, .ref r0, .ref r1, .ref r2, .ref r3, .ref r4, .ref r5, .ref r6, .ref r7, .ref r8, .ref r9, .ref r10, .int 0, .int 5, .long 0])), (h2, .inr (6, [.ref h1, .ref h3, .ref h4, .int 0, .int 0])), (h3, .inl (g0, 4, .inl (fun _ => 0))), (h4, .inl (g1, 40, .inl (fun _ => 0)))]) (w1 := [(h5, .inr (3, [.ref h1, .ref r12, .int 0])), (h1, .inr (10, [.ref r11, .int 0, .int 0, .int 0, .int 0]))]) hP hD [5, 1] [0, 2, 3, 4] rfl rfl (by decide) (by decide) hk1 hFc hP1 hD1
      generalize H1 = H at hP hS ⊢
      have hP : va_P (dC, dI) vwCl [(h0, .inr (11, [.ref h1, .ref h2, .ref h5, .ref r0, .ref r1, .ref r2, .ref r3, .ref r4, .ref r5, .ref r6, .ref r7, .ref r8, .ref r9, .ref r10, .int 0, .int 5, .long 0])), (h2, .inr (6, [.ref h1, .ref h3, .ref h4, .int 0, .int 0])), (h3, .inl (g0, 4, .inl (fun _ => 0))), (h4, .inl (g1, 40, .inl (fun _ => 0))), (h5, .inr (3, [.ref h1, .ref r12, .int 0])), (h1, .inr (10, [.ref r11, .int 0, .int 0, .int 0, .int 0]))] H := hP
      have hD : va_D A [(h0, .inr (11, [.ref h1, .ref h2, .ref h5, .ref r0, .ref r1, .ref r2, .ref r3, .ref r4, .ref r5, .ref r6, .ref r7, .ref r8, .ref r9, .ref r10, .int 0, .int 5, .long 0])), (h2, .inr (6, [.ref h1, .ref h3, .ref h4, .int 0, .int 0])), (h3, .inl (g0, 4, .inl (fun _ => 0))), (h4, .inl (g1, 40, .inl (fun _ => 0))), (h5, .inr (3, [.ref h1, .ref r12, .int 0])), (h1, .inr (10, [.ref r11, .int 0, .int 0, .int 0, .int 0]))] := hD
      obtain rfl : ra3 = (0 : Int32) := hw
      refine lv_goto (tgt := 29) hx hb dX11_fault_24 (by decide) ?_
      have hP9 := hP.sub (ws' := [(h0, .inr (11, [.ref h1, .ref h2, .ref h5, .ref r0, .ref r1, .ref r2, .ref r3, .ref r4, .ref r5, .ref r6, .ref r7, .ref r8, .ref r9, .ref r10, .int 0, .int 5, .long 0])), (h5, .inr (3, [.ref h1, .ref r12, .int 0])), (h2, .inr (6, [.ref h1, .ref h3, .ref h4, .int 0, .int 0]))]) [0, 4, 1] rfl
      have hD9 := hD.sub (ws' := [(h0, .inr (11, [.ref h1, .ref h2, .ref h5, .ref r0, .ref r1, .ref r2, .ref r3, .ref r4, .ref r5, .ref r6, .ref r7, .ref r8, .ref r9, .ref r10, .int 0, .int 5, .long 0])), (h5, .inr (3, [.ref h1, .ref r12, .int 0])), (h2, .inr (6, [.ref h1, .ref h3, .ref h4, .int 0, .int 0]))]) [0, 4, 1] (by decide) rfl
      have hK9 := hK.sub (tys' := []) [] rfl
      exact W.iret (v := 0) hx hb hr (fun t ht hW => ⟨⟨0, (), rfl, by rw [if_neg c1, if_pos c2], by rw [ht]; exact hP9, va_K.moved hW.alike hK9, hD9⟩, hS.F ht⟩) hS.2.2 dX11_fault_29
  · skip
    refine lv_aload_n hx hb dX11_fault_4 rfl (lv_at hl 0 rfl) ?_
    refine va_get (D := (dC, dI)) (ci := 11) (v := .ref h2) (C := RX11) (T := TX11) (N := 17) hx hb hts (fun _ h => List.mem_cons_of_mem _ (List.mem_append_left _ (List.mem_append_left _ (List.mem_append_left _ (List.mem_append_right _ h))))) hown hK hP 0 rfl rfl 1 (by decide) (hts (.fieldLink RX11 21 "LeftArguments" "officeReader" "LLeftArguments$OfficeReader;") (List.mem_cons_of_mem _ (List.mem_append_left _ (List.mem_append_left _ (List.mem_append_left _ (List.mem_append_left _ (List.mem_of_getElem? (i := 36) rfl))))))) (fun _ h9 => h9) rfl dX11_fault_5 ?_
    have hPc := hP.sub (ws' := [(h2, .inr (6, [.ref h1, .ref h3, .ref h4, .int 0, .int 0])), (h1, .inr (10, [.ref r11, .int 0, .int 0, .int (-1), .int 0])), (h3, .inl (g0, 4, .inl (fun _ => 0))), (h4, .inl (g1, 40, .inl (fun _ => 0)))]) [2, 1, 3, 4] rfl
    have hDc := hD.sub (ws' := [(h2, .inr (6, [.ref h1, .ref h3, .ref h4, .int 0, .int 0])), (h1, .inr (10, [.ref r11, .int 0, .int 0, .int (-1), .int 0])), (h3, .inl (g0, 4, .inl (fun _ => 0))), (h4, .inl (g1, 40, .inl (fun _ => 0)))]) [2, 1, 3, 4] (by decide) rfl
    have hKc := hK.sub (tys' := [(g0, .int), (g1, .int)]) [0, 1] rfl
    have hFc := va_free (wc := [(h2, .inr (6, [.ref h1, .ref h3, .ref h4, .int 0, .int 0])), (h1, .inr (10, [.ref r11, .int 0, .int 0, .int (-1), .int 0])), (h3, .inl (g0, 4, .inl (fun _ => 0))), (h4, .inl (g1, 40, .inl (fun _ => 0)))]) hD hS hA [2, 1, 3, 4] rfl
    refine va_calli (va_runV (As := []) (rest := []) ⟨hx, hb, hml, hown, hts⟩ (k_X6_read l dC dI g0 g1 h2 h1 h3 h4 r11  s.heap.size) (cwV 0 hts g_X11_fault_1 rfl rfl rfl (by decide +kernel) ⟨Nat.le_of_ble_eq_true rfl, Nat.le_of_ble_eq_true rfl⟩) ⟨fun a U g mk q => by obtain ⟨q0, q1, qP, qK, qD, n0, n1⟩ := q; exact ⟨q0, q1, qP, va_K.moved (u := U) (U := U.calling g mk a) (Vm.Alike.refl U.vm) qK, qD, pv_St.moved (Vm.Alike.refl _) n0, pv_St.moved (Vm.Alike.refl _) n1⟩, va_recv hKc hPc (ci := 6) (q0 := 0) rfl rfl, fun U hU hW => ⟨rfl, by rw [hU], by rw [hU]; exact hPc, va_K.moved hW.alike hKc, hDc.weaken (fun _ _ _ _ => trivial), (by rw [hU]; exact ((pv_St.kept h_st_RULE_USUAL hS.2.1).moved hW.alike).narrow hFc), (by rw [hU]; exact ((pv_St.kept h_st_BAG_USUAL hS.2.1).moved hW.alike).narrow hFc)⟩⟩ rfl rfl hl.1 rfl (lv_room (Nat.le_of_ble_eq_true rfl)) dX11_fault_8 ⟨Nat.le_of_ble_eq_true rfl, Nat.le_of_ble_eq_true rfl⟩) hS (fun q _ h => hFc q h) hFc (fun ra4 u t H1 locs ht hvm hw hB hz1 hk1 hS => ?_)
    obtain ⟨k5, k6, hP1, hK1, hD1⟩ := hB
    rw [ht] at hP1
    obtain ⟨hP, hD⟩ := va_join (wr := [(h0, .inr (11, [.ref h1, .ref h2, .ref h5, .ref r0, .ref r1, .ref r2, .ref r3, .ref r4, .ref r5, .ref r6, .ref r7, .ref r8, .ref r9, .ref r10, .int 0, .int 5, .long 0])), (h5, .inr (3, [.ref h1, .ref r12, .int 0]))]) (w1 := [(h3, .inl (g0, 4, .inl k5)), (h4, .inl (g1, 40, .inl k6)), (h2, .inr (6, [.ref h1, .ref h3, .ref h4, .int 0, .int 0])), (h1, .inr (10, [.ref r11, .int 0, .int 0, .int 0, .int 0]))]) hP hD [2, 1, 3, 4] [0, 5] rfl rfl (by decide) (by decide) hk1 hFc hP1 hD1
    generalize H1 = H at hP hS ⊢
    have hP : va_P (dC, dI) vwCl [(h0, .inr (11, [.ref h1, .ref h2, .ref h5, .ref r0, .ref r1, .ref r2, .ref r3, .ref r4, .ref r5, .ref r6, .ref r7, .ref r8, .ref r9, .ref r10, .int 0, .int 5, .long 0])), (h5, .inr (3, [.ref h1, .ref r12, .int 0])), (h3, .inl (g0, 4, .inl k5)), (h4, .inl (g1, 40, .inl k6)), (h2, .inr (6, [.ref h1, .ref h3, .ref h4, .int 0, .int 0])), (h1, .inr (10, [.ref r11, .int 0, .int 0, .int 0, .int 0]))] H := hP
    have hD : va_D A [(h0, .inr (11, [.ref h1, .ref h2, .ref h5, .ref r0, .ref r1, .ref r2, .ref r3, .ref r4, .ref r5, .ref r6, .ref r7, .ref r8, .ref r9, .ref r10, .int 0, .int 5, .long 0])), (h5, .inr (3, [.ref h1, .ref r12, .int 0])), (h3, .inl (g0, 4, .inl k5)), (h4, .inl (g1, 40, .inl k6)), (h2, .inr (6, [.ref h1, .ref h3, .ref h4, .int 0, .int 0])), (h1, .inr (10, [.ref r11, .int 0, .int 0, .int 0, .int 0]))] := hD
    obtain rfl : ra4 = (0 : Int32) := hw
    have hP9 := hP.sub (ws' := [(h0, .inr (11, [.ref h1, .ref h2, .ref h5, .ref r0, .ref r1, .ref r2, .ref r3, .ref r4, .ref r5, .ref r6, .ref r7, .ref r8, .ref r9, .ref r10, .int 0, .int 5, .long 0])), (h5, .inr (3, [.ref h1, .ref r12, .int 0])), (h2, .inr (6, [.ref h1, .ref h3, .ref h4, .int 0, .int 0]))]) [0, 1, 4] rfl
    have hD9 := hD.sub (ws' := [(h0, .inr (11, [.ref h1, .ref h2, .ref h5, .ref r0, .ref r1, .ref r2, .ref r3, .ref r4, .ref r5, .ref r6, .ref r7, .ref r8, .ref r9, .ref r10, .int 0, .int 5, .long 0])), (h5, .inr (3, [.ref h1, .ref r12, .int 0])), (h2, .inr (6, [.ref h1, .ref h3, .ref h4, .int 0, .int 0]))]) [0, 1, 4] (by decide) rfl
    have hK9 := hK.sub (tys' := []) [] rfl
    exact W.iret (v := 0) hx hb hr (fun t ht hW => ⟨⟨0, (), rfl, by rw [if_pos c1], by rw [ht]; exact hP9, va_K.moved hW.alike hK9, hD9⟩, hS.F ht⟩) hS.2.2 dX11_fault_11
def q_X4_number : List Cond := .code yX4_number cX4_number 1 (some .int) :: (([.fieldLink RX4 28 "LeftArguments$Laws" "number" "I"] : List Cond) ++ wsX40)
set_option maxHeartbeats 4000000 in
set_option maxRecDepth 100000 in
theorem k_X4_number (l : Launch) (dC : Nat → ClassId) (dI : Nat → Nat → Nat) (h0 : Nat) (r0 r1 r2 r3 : Nat) (sz : Nat) : Met l yX4_number q_X4_number ({ frames := 0, cells := 0, slots := 0, locals := 0 }) (va_Pc [.ref h0] (fun U => U.heap.size = sz ∧ va_P (dC, dI) vwCl [(h0, .inr (4, [.ref r0, .ref r1, .ref r2, .ref r3, .int 0, .int (-1)]))] U.heap ∧ va_K (dC, dI) vwCl [] U ∧ va_D (fun _ => True) [(h0, .inr (4, [.ref r0, .ref r1, .ref r2, .ref r3, .int 0, .int (-1)]))])) (va_Qi (fun (r : Int32) (_ : Unit) => r = 0) (fun (_ : Unit) (t : State) => va_P (dC, dI) vwCl [(h0, .inr (4, [.ref r0, .ref r1, .ref r2, .ref r3, .int 0, .int (-1)]))] t.heap ∧ va_K (dC, dI) vwCl [] t ∧ va_D (va_A [(h0, .inr (4, [.ref r0, .ref r1, .ref r2, .ref r3, .int 0, .int (-1)]))] sz) [(h0, .inr (4, [.ref r0, .ref r1, .ref r2, .ref r3, .int 0, .int (-1)]))]) (va_A [(h0, .inr (4, [.ref r0, .ref r1, .ref r2, .ref r3, .int 0, .int (-1)]))] sz)) 0 0 (va_A [(h0, .inr (4, [.ref r0, .ref r1, .ref r2, .ref r3, .int 0, .int (-1)]))] sz) := by
  refine Met.ofW (cc := cX4_number) (maxL := 1) (ret := (some .int)) (by decide) rfl ?_
  intro p e s m args below meth c s₁ B hml hv
  obtain ⟨rfl, hsz, hP, hK, hD0⟩ := hv
  have hx := B.exec
  have hb := B.bytes
  have hr := B.returns
  have hts := atoms_spec (ws := q_X4_number) B.pre
  have hown : s.vm.findClass RX4 = some m.cls := findClass_of_methodNamed B.named
  have hlocks := B.notSynchronized
  subst hsz
  have hD := hD0.self (sz := s.heap.size)
  generalize hAe : va_A [(h0, .inr (4, [.ref r0, .ref r1, .ref r2, .ref r3, .int 0, .int (-1)]))] s.heap.size = A at hD ⊢
  have hA : ∀ q : Nat, s.heap.size ≤ q → A q := fun q h => by rw [← hAe]; exact Or.inr h
  have hS : va_S A s.heap s.heap [] := va_S.rf
  have hl := lv_entry ([.ref h0]) (n := 1) (Nat.le_of_ble_eq_true rfl)
  rw [lg_entry_eq]
  generalize (lg_sl ([.ref h0]) ++ List.replicate (1 - (lg_sl ([.ref h0])).length) Slot.unset).toArray = ls at hl ⊢
  have hl : lv_has ls 1 [(0, .ref h0)] := hl
  refine lv_aload_n hx hb dX4_number_0 rfl (lv_at hl 0 rfl) ?_
  refine va_get (D := (dC, dI)) (ci := 4) (v := .int 0) (C := RX4) (T := TX4) (N := 6) hx hb hts (fun _ h => List.mem_cons_of_mem _ (List.mem_append_right _ h)) hown hK hP 0 rfl rfl 4 (by decide) (hts (.fieldLink RX4 28 "LeftArguments$Laws" "number" "I") (List.mem_cons_of_mem _ (List.mem_append_left _ (List.mem_of_getElem? (i := 0) rfl)))) (fun _ h9 => h9) rfl dX4_number_1 ?_
  have hP9 := hP.sub (ws' := [(h0, .inr (4, [.ref r0, .ref r1, .ref r2, .ref r3, .int 0, .int (-1)]))]) [0] rfl
  have hD9 := hD.sub (ws' := [(h0, .inr (4, [.ref r0, .ref r1, .ref r2, .ref r3, .int 0, .int (-1)]))]) [0] (by decide) rfl
  have hK9 := hK.sub (tys' := []) [] rfl
  exact W.iret (v := 0) hx hb hr (fun t ht hW => ⟨⟨0, (), rfl, rfl, by rw [ht]; exact hP9, va_K.moved hW.alike hK9, hD9⟩, hS.F ht⟩) hS.2.2 dX4_number_4
def q_X11_text : List Cond := .code yX11_text cX11_text 2 (some .int) :: (([.fieldLink RX11 35 "LeftArguments" "laws" "LLeftArguments$Laws;", .code yX4_number cX4_number 1 (some .int), .fieldLink RX4 28 "LeftArguments$Laws" "number" "I", .initialized RX4, .instanceMethod yX4_number, .selects RX4 yX4_number yX4_number, .methodLink RX11 134 yX4_number, .fieldLink RX11 28 "LeftArguments" "lawReader" "LLeftArguments$LawReader;", .code yX3_read cX3_read 2 (some .int), .fieldLink RX3 19 "LeftArguments$LawReader" "tape" "LLeftArguments$Tape;", .code yX10_rewind cX10_rewind 1 none, .fieldLink RX10 19 "LeftArguments$Tape" "at" "I", .fieldLink RX10 22 "LeftArguments$Tape" "wrongAt" "I", .initialized RX10, .instanceMethod yX10_rewind, .selects RX10 yX10_rewind yX10_rewind, .methodLink RX3 35 yX10_rewind, .fieldLink RX3 15 "LeftArguments$LawReader" "used" "I", .code yX3_readClause cX3_readClause 4 (some .boolean), .code yX10_take cX10_take 2 (some .boolean), .code yX10_next cX10_next 1 (some .int), .fieldLink RX10 15 "LeftArguments$Tape" "used" "I", .instanceMethod yX10_next, .selects RX10 yX10_next yX10_next, .methodLink RX10 37 yX10_next, .code yX10_wrongHere cX10_wrongHere 1 (some .boolean), .instanceMethod yX10_wrongHere, .selects RX10 yX10_wrongHere yX10_wrongHere, .methodLink RX10 41 yX10_wrongHere, .instanceMethod yX10_take, .selects RX10 yX10_take yX10_take, .methodLink RX3 51 yX10_take, .initialized RX3, .instanceMethod yX3_readClause, .selects RX3 yX3_readClause yX3_readClause, .methodLink RX3 40 yX3_readClause, .code yX10_wrongAt cX10_wrongAt 1 (some .int), .instanceMethod yX10_wrongAt, .selects RX10 yX10_wrongAt yX10_wrongAt, .methodLink RX3 44 yX10_wrongAt, .instanceMethod yX3_read, .selects RX3 yX3_read yX3_read, .methodLink RX11 130 yX3_read, .fieldLink RX11 21 "LeftArguments" "officeReader" "LLeftArguments$OfficeReader;", .code yX6_read cX6_read 2 (some .int), .fieldLink RX6 26 "LeftArguments$OfficeReader" "tape" "LLeftArguments$Tape;", .methodLink RX6 42 yX10_rewind, .fieldLink RX6 18 "LeftArguments$OfficeReader" "rulesTold" "Z", .fieldLink RX6 22 "LeftArguments$OfficeReader" "bagCount" "I", .fieldLink RX6 47 "LeftArguments$OfficeReader" "RULE_USUAL" "[I", .fieldLink RX6 11 "LeftArguments$OfficeReader" "rules" "[I", .methodLink RX6 36 arraycopyName, .native arraycopyName, .static arraycopyName, .initialized "java/lang/System", .fieldLink RX6 50 "LeftArguments$OfficeReader" "BAG_USUAL" "[I", .fieldLink RX6 15 "LeftArguments$OfficeReader" "bags" "[I", .code yX6_readClause cX6_readClause 3 (some .boolean), .methodLink RX6 61 yX10_next, .methodLink RX6 93 yX10_wrongHere, .initialized RX6, .instanceMethod yX6_readClause, .selects RX6 yX6_readClause yX6_readClause, .methodLink RX6 53 yX6_readClause, .methodLink RX6 57 yX10_wrongAt, .instanceMethod yX6_read, .selects RX6 yX6_read yX6_read, .methodLink RX11 127 yX6_read] : List Cond) ++ wsX110 ++ wsX40 ++ wsX30 ++ wsX100 ++ wsX60)
set_option maxRecDepth 20000 in
theorem g_X11_text_0 : GoodIn q_X11_text (wsV RX11 134 RX4 yX4_number q_X4_number) := goodIn_app (goodIn_r _ [7, 5, 6, 4] (by decide +kernel) (by decide +kernel)) (goodIn_ca (goodIn_r (.code yX4_number cX4_number 1 (some .int) :: [.fieldLink RX4 28 "LeftArguments$Laws" "number" "I"]) [2, 3] (by decide +kernel) (by decide +kernel)) (goodIn_sub (fun _ h => List.mem_cons_of_mem _ (List.mem_append_left _ (List.mem_append_left _ (List.mem_append_left _ (List.mem_append_right _ h))))) gwX4))
set_option maxRecDepth 20000 in
theorem g_X11_text_1 : GoodIn q_X11_text (wsV RX11 130 RX3 yX3_read q_X3_read) := goodIn_app (goodIn_r _ [43, 41, 42, 33] (by decide +kernel) (by decide +kernel)) (goodIn_ca (goodIn_ca (goodIn_r (.code yX3_read cX3_read 2 (some .int) :: [.fieldLink RX3 19 "LeftArguments$LawReader" "tape" "LLeftArguments$Tape;", .code yX10_rewind cX10_rewind 1 none, .fieldLink RX10 19 "LeftArguments$Tape" "at" "I", .fieldLink RX10 22 "LeftArguments$Tape" "wrongAt" "I", .initialized RX10, .instanceMethod yX10_rewind, .selects RX10 yX10_rewind yX10_rewind, .methodLink RX3 35 yX10_rewind, .fieldLink RX3 15 "LeftArguments$LawReader" "used" "I", .code yX3_readClause cX3_readClause 4 (some .boolean), .code yX10_take cX10_take 2 (some .boolean), .code yX10_next cX10_next 1 (some .int), .fieldLink RX10 15 "LeftArguments$Tape" "used" "I", .instanceMethod yX10_next, .selects RX10 yX10_next yX10_next, .methodLink RX10 37 yX10_next, .code yX10_wrongHere cX10_wrongHere 1 (some .boolean), .instanceMethod yX10_wrongHere, .selects RX10 yX10_wrongHere yX10_wrongHere, .methodLink RX10 41 yX10_wrongHere, .instanceMethod yX10_take, .selects RX10 yX10_take yX10_take, .methodLink RX3 51 yX10_take, .initialized RX3, .instanceMethod yX3_readClause, .selects RX3 yX3_readClause yX3_readClause, .methodLink RX3 40 yX3_readClause, .code yX10_wrongAt cX10_wrongAt 1 (some .int), .instanceMethod yX10_wrongAt, .selects RX10 yX10_wrongAt yX10_wrongAt, .methodLink RX3 44 yX10_wrongAt]) [9, 10, 11, 12, 13, 14, 15, 16, 17, 18, 19, 20, 21, 22, 23, 24, 25, 26, 27, 28, 29, 30, 31, 32, 33, 34, 35, 36, 37, 38, 39, 40] (by decide +kernel) (by decide +kernel)) (goodIn_sub (fun _ h => List.mem_cons_of_mem _ (List.mem_append_left _ (List.mem_append_left _ (List.mem_append_right _ h)))) gwX3)) (goodIn_sub (fun _ h => List.mem_cons_of_mem _ (List.mem_append_left _ (List.mem_append_right _ h))) gwX10))
set_option maxRecDepth 20000 in
theorem g_X11_text_2 : GoodIn q_X11_text (wsV RX11 127 RX6 yX6_read q_X6_read) := goodIn_app (goodIn_r _ [68, 66, 67, 61] (by decide +kernel) (by decide +kernel)) (goodIn_ca (goodIn_ca (goodIn_r (.code yX6_read cX6_read 2 (some .int) :: [.fieldLink RX6 26 "LeftArguments$OfficeReader" "tape" "LLeftArguments$Tape;", .code yX10_rewind cX10_rewind 1 none, .fieldLink RX10 19 "LeftArguments$Tape" "at" "I", .fieldLink RX10 22 "LeftArguments$Tape" "wrongAt" "I", .initialized RX10, .instanceMethod yX10_rewind, .selects RX10 yX10_rewind yX10_rewind, .methodLink RX6 42 yX10_rewind, .fieldLink RX6 18 "LeftArguments$OfficeReader" "rulesTold" "Z", .fieldLink RX6 22 "LeftArguments$OfficeReader" "bagCount" "I", .fieldLink RX6 47 "LeftArguments$OfficeReader" "RULE_USUAL" "[I", .fieldLink RX6 11 "LeftArguments$OfficeReader" "rules" "[I", .methodLink RX6 36 arraycopyName, .native arraycopyName, .static arraycopyName, .initialized "java/lang/System", .fieldLink RX6 50 "LeftArguments$OfficeReader" "BAG_USUAL" "[I", .fieldLink RX6 15 "LeftArguments$OfficeReader" "bags" "[I", .code yX6_readClause cX6_readClause 3 (some .boolean), .code yX10_next cX10_next 1 (some .int), .fieldLink RX10 15 "LeftArguments$Tape" "used" "I", .instanceMethod yX10_next, .selects RX10 yX10_next yX10_next, .methodLink RX6 61 yX10_next, .code yX10_wrongHere cX10_wrongHere 1 (some .boolean), .instanceMethod yX10_wrongHere, .selects RX10 yX10_wrongHere yX10_wrongHere, .methodLink RX6 93 yX10_wrongHere, .initialized RX6, .instanceMethod yX6_readClause, .selects RX6 yX6_readClause yX6_readClause, .methodLink RX6 53 yX6_readClause, .code yX10_wrongAt cX10_wrongAt 1 (some .int), .instanceMethod yX10_wrongAt, .selects RX10 yX10_wrongAt yX10_wrongAt, .methodLink RX6 57 yX10_wrongAt]) [45, 46, 11, 12, 13, 14, 15, 16, 47, 48, 49, 50, 51, 52, 53, 54, 55, 56, 57, 58, 21, 22, 23, 24, 59, 26, 27, 28, 60, 61, 62, 63, 64, 37, 38, 39, 65] (by decide +kernel) (by decide +kernel)) (goodIn_sub (fun _ h => List.mem_cons_of_mem _ (List.mem_append_right _ h)) gwX6)) (goodIn_sub (fun _ h => List.mem_cons_of_mem _ (List.mem_append_left _ (List.mem_append_right _ h))) gwX10))
set_option maxHeartbeats 4000000 in
set_option maxRecDepth 100000 in
theorem k_X11_text (l : Launch) (dC : Nat → ClassId) (dI : Nat → Nat → Nat) (g0 g1 : ClassId) (h0 h1 h2 h3 h4 h5 h6 : Nat) (r0 r1 r2 r3 r4 r5 r6 r7 r8 r9 r10 r11 r12 r13 r14 r15 : Nat) (v0 : Int32) (sz : Nat) : Met l yX11_text q_X11_text ({ frames := 4, cells := 0, slots := 0, locals := 85 }) (va_Pc [.ref h0, .int v0] (fun U => U.heap.size = sz ∧ va_P (dC, dI) vwCl [(h0, .inr (11, [.ref h1, .ref h2, .ref h5, .ref h6, .ref r0, .ref r1, .ref r2, .ref r3, .ref r4, .ref r5, .ref r6, .ref r7, .ref r8, .ref r9, .int 0, .int 5, .long 0])), (h1, .inr (10, [.ref r10, .int 0, .int 0, .int (-1), .int 0])), (h2, .inr (6, [.ref h1, .ref h3, .ref h4, .int 0, .int 0])), (h3, .inl (g0, 4, .inl (fun _ => 0))), (h4, .inl (g1, 40, .inl (fun _ => 0))), (h5, .inr (3, [.ref h1, .ref r11, .int 0])), (h6, .inr (4, [.ref r12, .ref r13, .ref r14, .ref r15, .int 0, .int (-1)]))] U.heap ∧ va_K (dC, dI) vwCl [(g0, .int), (g1, .int)] U ∧ va_D (fun _ => True) [(h0, .inr (11, [.ref h1, .ref h2, .ref h5, .ref h6, .ref r0, .ref r1, .ref r2, .ref r3, .ref r4, .ref r5, .ref r6, .ref r7, .ref r8, .ref r9, .int 0, .int 5, .long 0])), (h1, .inr (10, [.ref r10, .int 0, .int 0, .int (-1), .int 0])), (h2, .inr (6, [.ref h1, .ref h3, .ref h4, .int 0, .int 0])), (h3, .inl (g0, 4, .inl (fun _ => 0))), (h4, .inl (g1, 40, .inl (fun _ => 0))), (h5, .inr (3, [.ref h1, .ref r11, .int 0])), (h6, .inr (4, [.ref r12, .ref r13, .ref r14, .ref r15, .int 0, .int (-1)]))] ∧ pv_St "RULE_USUAL" 4 (va_A [(h0, .inr (11, [.ref h1, .ref h2, .ref h5, .ref h6, .ref r0, .ref r1, .ref r2, .ref r3, .ref r4, .ref r5, .ref r6, .ref r7, .ref r8, .ref r9, .int 0, .int 5, .long 0])), (h1, .inr (10, [.ref r10, .int 0, .int 0, .int (-1), .int 0])), (h2, .inr (6, [.ref h1, .ref h3, .ref h4, .int 0, .int 0])), (h3, .inl (g0, 4, .inl (fun _ => 0))), (h4, .inl (g1, 40, .inl (fun _ => 0))), (h5, .inr (3, [.ref h1, .ref r11, .int 0])), (h6, .inr (4, [.ref r12, .ref r13, .ref r14, .ref r15, .int 0, .int (-1)]))] sz) U U.heap ∧ pv_St "BAG_USUAL" 5 (va_A [(h0, .inr (11, [.ref h1, .ref h2, .ref h5, .ref h6, .ref r0, .ref r1, .ref r2, .ref r3, .ref r4, .ref r5, .ref r6, .ref r7, .ref r8, .ref r9, .int 0, .int 5, .long 0])), (h1, .inr (10, [.ref r10, .int 0, .int 0, .int (-1), .int 0])), (h2, .inr (6, [.ref h1, .ref h3, .ref h4, .int 0, .int 0])), (h3, .inl (g0, 4, .inl (fun _ => 0))), (h4, .inl (g1, 40, .inl (fun _ => 0))), (h5, .inr (3, [.ref h1, .ref r11, .int 0])), (h6, .inr (4, [.ref r12, .ref r13, .ref r14, .ref r15, .int 0, .int (-1)]))] sz) U U.heap)) (va_Qi (fun (r : Int32) (_ : Unit) => r = (-1)) (fun (_ : Unit) (t : State) => va_P (dC, dI) vwCl [(h0, .inr (11, [.ref h1, .ref h2, .ref h5, .ref h6, .ref r0, .ref r1, .ref r2, .ref r3, .ref r4, .ref r5, .ref r6, .ref r7, .ref r8, .ref r9, .int 0, .int 5, .long 0])), (h5, .inr (3, [.ref h1, .ref r11, .int 0])), (h6, .inr (4, [.ref r12, .ref r13, .ref r14, .ref r15, .int 0, .int (-1)])), (h2, .inr (6, [.ref h1, .ref h3, .ref h4, .int 0, .int 0]))] t.heap ∧ va_K (dC, dI) vwCl [] t ∧ va_D (va_A [(h0, .inr (11, [.ref h1, .ref h2, .ref h5, .ref h6, .ref r0, .ref r1, .ref r2, .ref r3, .ref r4, .ref r5, .ref r6, .ref r7, .ref r8, .ref r9, .int 0, .int 5, .long 0])), (h1, .inr (10, [.ref r10, .int 0, .int 0, .int (-1), .int 0])), (h2, .inr (6, [.ref h1, .ref h3, .ref h4, .int 0, .int 0])), (h3, .inl (g0, 4, .inl (fun _ => 0))), (h4, .inl (g1, 40, .inl (fun _ => 0))), (h5, .inr (3, [.ref h1, .ref r11, .int 0])), (h6, .inr (4, [.ref r12, .ref r13, .ref r14, .ref r15, .int 0, .int (-1)]))] sz) [(h0, .inr (11, [.ref h1, .ref h2, .ref h5, .ref h6, .ref r0, .ref r1, .ref r2, .ref r3, .ref r4, .ref r5, .ref r6, .ref r7, .ref r8, .ref r9, .int 0, .int 5, .long 0])), (h5, .inr (3, [.ref h1, .ref r11, .int 0])), (h6, .inr (4, [.ref r12, .ref r13, .ref r14, .ref r15, .int 0, .int (-1)])), (h2, .inr (6, [.ref h1, .ref h3, .ref h4, .int 0, .int 0]))]) (va_A [(h0, .inr (11, [.ref h1, .ref h2, .ref h5, .ref h6, .ref r0, .ref r1, .ref r2, .ref r3, .ref r4, .ref r5, .ref r6, .ref r7, .ref r8, .ref r9, .int 0, .int 5, .long 0])), (h1, .inr (10, [.ref r10, .int 0, .int 0, .int (-1), .int 0])), (h2, .inr (6, [.ref h1, .ref h3, .ref h4, .int 0, .int 0])), (h3, .inl (g0, 4, .inl (fun _ => 0))), (h4, .inl (g1, 40, .inl (fun _ => 0))), (h5, .inr (3, [.ref h1, .ref r11, .int 0])), (h6, .inr (4, [.ref r12, .ref r13, .ref r14, .ref r15, .int 0, .int (-1)]))] sz)) 0 0 (va_A [(h0, .inr (11, [.ref h1, .ref h2, .ref h5, .ref h6, .ref r0, .ref r1, .ref r2, .ref r3, .ref r4, .ref r5, .ref r6, .ref r7, .ref r8, .ref r9, .int 0, .int 5, .long 0])), (h1, .inr (10, [.ref r10, .int 0, .int 0, .int (-1), .int 0])), (h2, .inr (6, [.ref h1, .ref h3, .ref h4, .int 0, .int 0])), (h3, .inl (g0, 4, .inl (fun _ => 0))), (h4, .inl (g1, 40, .inl (fun _ => 0))), (h5, .inr (3, [.ref h1, .ref r11, .int 0])), (h6, .inr (4, [.ref r12, .ref r13, .ref r14, .ref r15, .int 0, .int (-1)]))] sz) := by
  refine Met.ofW (cc := cX11_text) (maxL := 2) (ret := (some .int)) (by decide) rfl ?_
  intro p e s m args below meth c s₁ B hml hv
  obtain ⟨rfl, hsz, hP, hK, hD0, h_st_RULE_USUAL, h_st_BAG_USUAL⟩ := hv
  have hx := B.exec
  have hb := B.bytes
  have hr := B.returns
  have hts := atoms_spec (ws := q_X11_text) B.pre
  have hown : s.vm.findClass RX11 = some m.cls := findClass_of_methodNamed B.named
  have hlocks := B.notSynchronized
  subst hsz
  have hD := hD0.self (sz := s.heap.size)
  generalize hAe : va_A [(h0, .inr (11, [.ref h1, .ref h2, .ref h5, .ref h6, .ref r0, .ref r1, .ref r2, .ref r3, .ref r4, .ref r5, .ref r6, .ref r7, .ref r8, .ref r9, .int 0, .int 5, .long 0])), (h1, .inr (10, [.ref r10, .int 0, .int 0, .int (-1), .int 0])), (h2, .inr (6, [.ref h1, .ref h3, .ref h4, .int 0, .int 0])), (h3, .inl (g0, 4, .inl (fun _ => 0))), (h4, .inl (g1, 40, .inl (fun _ => 0))), (h5, .inr (3, [.ref h1, .ref r11, .int 0])), (h6, .inr (4, [.ref r12, .ref r13, .ref r14, .ref r15, .int 0, .int (-1)]))] s.heap.size = A at hD h_st_RULE_USUAL h_st_BAG_USUAL ⊢
  have hA : ∀ q : Nat, s.heap.size ≤ q → A q := fun q h => by rw [← hAe]; exact Or.inr h
  have hS : va_S A s.heap s.heap [] := va_S.rf
  have hl := lv_entry ([.ref h0, .int v0]) (n := 2) (Nat.le_of_ble_eq_true rfl)
  rw [lg_entry_eq]
  generalize (lg_sl ([.ref h0, .int v0]) ++ List.replicate (2 - (lg_sl ([.ref h0, .int v0])).length) Slot.unset).toArray = ls at hl ⊢
  have hl : lv_has ls 2 [(0, .ref h0), (1, .int v0)] := hl
  refine lv_iload_n hx hb dX11_text_0 rfl (lv_at hl 1 rfl) ?_
  refine lv_if_ne (tgt := 20) hx hb dX11_text_1 (by decide) (fun c1 => ?_) (fun c1 => ?_)
  · skip
    refine lv_iload_n hx hb dX11_text_20 rfl (lv_at hl 1 rfl) ?_
    refine lv_iconst (v := 1) hx hb dX11_text_21 (by decide) ?_
    refine lv_icmp_ne (tgt := 67) hx hb dX11_text_22 (by decide) (fun c2 => ?_) (fun c2 => ?_)
    · skip
      refine lv_iconst (v := (-1)) hx hb dX11_text_67 (by decide) ?_
      have hP9 := hP.sub (ws' := [(h0, .inr (11, [.ref h1, .ref h2, .ref h5, .ref h6, .ref r0, .ref r1, .ref r2, .ref r3, .ref r4, .ref r5, .ref r6, .ref r7, .ref r8, .ref r9, .int 0, .int 5, .long 0])), (h5, .inr (3, [.ref h1, .ref r11, .int 0])), (h6, .inr (4, [.ref r12, .ref r13, .ref r14, .ref r15, .int 0, .int (-1)])), (h2, .inr (6, [.ref h1, .ref h3, .ref h4, .int 0, .int 0]))]) [0, 5, 6, 2] rfl
      have hD9 := hD.sub (ws' := [(h0, .inr (11, [.ref h1, .ref h2, .ref h5, .ref h6, .ref r0, .ref r1, .ref r2, .ref r3, .ref r4, .ref r5, .ref r6, .ref r7, .ref r8, .ref r9, .int 0, .int 5, .long 0])), (h5, .inr (3, [.ref h1, .ref r11, .int 0])), (h6, .inr (4, [.ref r12, .ref r13, .ref r14, .ref r15, .int 0, .int (-1)])), (h2, .inr (6, [.ref h1, .ref h3, .ref h4, .int 0, .int 0]))]) [0, 5, 6, 2] (by decide) rfl
      have hK9 := hK.sub (tys' := []) [] rfl
      exact W.iret (v := (-1)) hx hb hr (fun t ht hW => ⟨⟨(-1), (), rfl, rfl, by rw [ht]; exact hP9, va_K.moved hW.alike hK9, hD9⟩, hS.F ht⟩) hS.2.2 dX11_text_68
    · skip
      refine lv_aload_n hx hb dX11_text_25 rfl (lv_at hl 0 rfl) ?_
      refine va_get (D := (dC, dI)) (ci := 11) (v := .ref h6) (C := RX11) (T := TX11) (N := 17) hx hb hts (fun _ h => List.mem_cons_of_mem _ (List.mem_append_left _ (List.mem_append_left _ (List.mem_append_left _ (List.mem_append_left _ (List.mem_append_right _ h)))))) hown hK hP 0 rfl rfl 3 (by decide) (hts (.fieldLink RX11 35 "LeftArguments" "laws" "LLeftArguments$Laws;") (List.mem_cons_of_mem _ (List.mem_append_left _ (List.mem_append_left _ (List.mem_append_left _ (List.mem_append_left _ (List.mem_append_left _ (List.mem_of_getElem? (i := 0) rfl)))))))) (fun _ h9 => h9) rfl dX11_text_26 ?_
      have hPc := hP.sub (ws' := [(h6, .inr (4, [.ref r12, .ref r13, .ref r14, .ref r15, .int 0, .int (-1)]))]) [6] rfl
      have hDc := hD.sub (ws' := [(h6, .inr (4, [.ref r12, .ref r13, .ref r14, .ref r15, .int 0, .int (-1)]))]) [6] (by decide) rfl
      have hKc := hK.sub (tys' := []) [] rfl
      have hFc := va_free (wc := [(h6, .inr (4, [.ref r12, .ref r13, .ref r14, .ref r15, .int 0, .int (-1)]))]) hD hS hA [6] rfl
      refine va_calli (va_runV (As := []) (rest := []) ⟨hx, hb, hml, hown, hts⟩ (k_X4_number l dC dI h6 r12 r13 r14 r15  s.heap.size) (cwV 0 hts g_X11_text_0 rfl rfl rfl (by decide +kernel) ⟨Nat.le_of_ble_eq_true rfl, Nat.le_of_ble_eq_true rfl⟩) ⟨fun a U g mk q => by obtain ⟨q0, q1, qP, qK, qD⟩ := q; exact ⟨q0, q1, qP, va_K.moved (u := U) (U := U.calling g mk a) (Vm.Alike.refl U.vm) qK, qD⟩, va_recv hKc hPc (ci := 4) (q0 := 0) rfl rfl, fun U hU hW => ⟨rfl, by rw [hU], by rw [hU]; exact hPc, va_K.moved hW.alike hKc, hDc.weaken (fun _ _ _ _ => trivial)⟩⟩ rfl rfl hl.1 rfl (lv_room (Nat.le_of_ble_eq_true rfl)) dX11_text_29 ⟨Nat.le_of_ble_eq_true rfl, Nat.le_of_ble_eq_true rfl⟩) hS (fun q _ h => hFc q h) hFc (fun ra3 u t H1 locs ht hvm hw hB hz1 hk1 hS => ?_)
      obtain ⟨hP1, hK1, hD1⟩ := hB
      rw [ht] at hP1
      obtain ⟨hP, hD⟩ := va_join (wr := [(h0, .inr (11, [.ref h1, .ref h2, .ref h5, .ref h6, .ref r0, .ref r1, .ref r2, .ref r3, .ref r4, .ref r5, .ref r6, .ref r7, .ref r8, .ref r9, .int 0, .int 5, .long 0])), (h1, .inr (10, [.ref r10, .int 0, .int 0, .int (-1), .int 0])), (h2, .inr (6, [.ref h1, .ref h3, .ref h4, .int 0, .int 0])), (h3, .inl (g0, 4, .inl (fun _ => 0))), (h4, .inl (g1, 40, .inl (fun _ => 0))), (h5, .inr (3, [.ref h1, .ref r11, .int 0]))]) (w1 := [(h6, .inr (4, [.ref r12, .ref r13, .ref r14, .ref r15, .int 0, .int (-1)]))]) hP hD [6] [0, 1, 2, 3, 4, 5] rfl rfl (by decide) (by decide) hk1 hFc hP1 hD1
      generalize H1 = H at hP hS ⊢
      have hP : va_P (dC, dI) vwCl [(h0, .inr (11, [.ref h1, .ref h2, .ref h5, .ref h6, .ref r0, .ref r1, .ref r2, .ref r3, .ref r4, .ref r5, .ref r6, .ref r7, .ref r8, .ref r9, .int 0, .int 5, .long 0])), (h1, .inr (10, [.ref r10, .int 0, .int 0, .int (-1), .int 0])), (h2, .inr (6, [.ref h1, .ref h3, .ref h4, .int 0, .int 0])), (h3, .inl (g0, 4, .inl (fun _ => 0))), (h4, .inl (g1, 40, .inl (fun _ => 0))), (h5, .inr (3, [.ref h1, .ref r11, .int 0])), (h6, .inr (4, [.ref r12, .ref r13, .ref r14, .ref r15, .int 0, .int (-1)]))] H := hP
      have hD : va_D A [(h0, .inr (11, [.ref h1, .ref h2, .ref h5, .ref h6, .ref r0, .ref r1, .ref r2, .ref r3, .ref r4, .ref r5, .ref r6, .ref r7, .ref r8, .ref r9, .int 0, .int 5, .long 0])), (h1, .inr (10, [.ref r10, .int 0, .int 0, .int (-1), .int 0])), (h2, .inr (6, [.ref h1, .ref h3, .ref h4, .int 0, .int 0])), (h3, .inl (g0, 4, .inl (fun _ => 0))), (h4, .inl (g1, 40, .inl (fun _ => 0))), (h5, .inr (3, [.ref h1, .ref r11, .int 0])), (h6, .inr (4, [.ref r12, .ref r13, .ref r14, .ref r15, .int 0, .int (-1)]))] := hD
      obtain rfl : ra3 = (0 : Int32) := hw
      refine lv_iconst (v := 4) hx hb dX11_text_32 (by decide) ?_
      refine lv_icmp_ge (tgt := 67) hx hb dX11_text_33 (by decide) (fun c => absurd c (by decide)) (fun _ => ?_)
      refine lv_aload_n hx hb dX11_text_36 rfl (lv_at hl 0 rfl) ?_
      refine va_get (D := (dC, dI)) (ci := 11) (v := .ref h5) (C := RX11) (T := TX11) (N := 17) hx hb hts (fun _ h => List.mem_cons_of_mem _ (List.mem_append_left _ (List.mem_append_left _ (List.mem_append_left _ (List.mem_append_left _ (List.mem_append_right _ h)))))) hown hK hP 0 rfl rfl 2 (by decide) (hts (.fieldLink RX11 28 "LeftArguments" "lawReader" "LLeftArguments$LawReader;") (List.mem_cons_of_mem _ (List.mem_append_left _ (List.mem_append_left _ (List.mem_append_left _ (List.mem_append_left _ (List.mem_append_left _ (List.mem_of_getElem? (i := 7) rfl)))))))) (fun _ h9 => h9) rfl dX11_text_37 ?_
      have hPc := hP.sub (ws' := [(h5, .inr (3, [.ref h1, .ref r11, .int 0])), (h1, .inr (10, [.ref r10, .int 0, .int 0, .int (-1), .int 0]))]) [5, 1] rfl
      have hDc := hD.sub (ws' := [(h5, .inr (3, [.ref h1, .ref r11, .int 0])), (h1, .inr (10, [.ref r10, .int 0, .int 0, .int (-1), .int 0]))]) [5, 1] (by decide) rfl
      have hKc := hK.sub (tys' := []) [] rfl
      have hFc := va_free (wc := [(h5, .inr (3, [.ref h1, .ref r11, .int 0])), (h1, .inr (10, [.ref r10, .int 0, .int 0, .int (-1), .int 0]))]) hD hS hA [5, 1] rfl
      refine va_calli (va_runV (As := []) (rest := []) ⟨hx, hb, hml, hown, hts⟩ (k_X3_read l dC dI h5 h1 r11 r10  H.size) (cwV 0 hts g_X11_text_1 rfl rfl rfl (by decide +kernel) ⟨Nat.le_of_ble_eq_true rfl, Nat.le_of_ble_eq_true rfl⟩) ⟨fun a U g mk q => by obtain ⟨q0, q1, qP, qK, qD⟩ := q; exact ⟨q0, q1, qP, va_K.moved (u := U) (U := U.calling g mk a) (Vm.Alike.refl U.vm) qK, qD⟩, va_recv hKc hPc (ci := 3) (q0 := 0) rfl rfl, fun U hU hW => ⟨rfl, by rw [hU], by rw [hU]; exact hPc, va_K.moved hW.alike hKc, hDc.weaken (fun _ _ _ _ => trivial)⟩⟩ rfl rfl hl.1 rfl (lv_room (Nat.le_of_ble_eq_true rfl)) dX11_text_40 ⟨Nat.le_of_ble_eq_true rfl, Nat.le_of_ble_eq_true rfl⟩) hS (fun q _ h => hFc q h) hFc (fun ra4 u t H1 locs ht hvm hw hB hz1 hk1 hS => ?_)
      obtain ⟨hP1, hK1, hD1⟩ := hB
      rw [ht] at hP1
      obtain ⟨hP, hD⟩ := va_join (wr := [(h0, .inr (11, [.ref h1, .ref h2, .ref h5, .ref h6, .ref r0, .ref r1, .ref r2, .ref r3, .ref r4, .ref r5, .ref r6, .ref r7, .ref r8, .ref r9, .int 0, .int 5, .long 0])), (h2, .inr (6, [.ref h1, .ref h3, .ref h4, .int 0, .int 0])), (h3, .inl (g0, 4, .inl (fun _ => 0))), (h4, .inl (g1, 40, .inl (fun _ => 0))), (h6, .inr (4, [.ref r12, .ref r13, .ref r14, .ref r15, .int 0, .int (-1)]))]) (w1 := [(h5, .inr (3, [.ref h1, .ref r11, .int 0])), (h1, .inr (10, [.ref r10, .int 0, .int 0, .int 0, .int 0]))]) hP hD [5, 1] [0, 2, 3, 4, 6] rfl rfl (by decide) (by decide) hk1 hFc hP1 hD1
      generalize H1 = H at hP hS ⊢
      have hP : va_P (dC, dI) vwCl [(h0, .inr (11, [.ref h1, .ref h2, .ref h5, .ref h6, .ref r0, .ref r1, .ref r2, .ref r3, .ref r4, .ref r5, .ref r6, .ref r7, .ref r8, .ref r9, .int 0, .int 5, .long 0])), (h2, .inr (6, [.ref h1, .ref h3, .ref h4, .int 0, .int 0])), (h3, .inl (g0, 4, .inl (fun _ => 0))), (h4, .inl (g1, 40, .inl (fun _ => 0))), (h6, .inr (4, [.ref r12, .ref r13, .ref r14, .ref r15, .int 0, .int (-1)])), (h5, .inr (3, [.ref h1, .ref r11, .int 0])), (h1, .inr (10, [.ref r10, .int 0, .int 0, .int 0, .int 0]))] H := hP
      have hD : va_D A [(h0, .inr (11, [.ref h1, .ref h2, .ref h5, .ref h6, .ref r0, .ref r1, .ref r2, .ref r3, .ref r4, .ref r5, .ref r6, .ref r7, .ref r8, .ref r9, .int 0, .int 5, .long 0])), (h2, .inr (6, [.ref h1, .ref h3, .ref h4, .int 0, .int 0])), (h3, .inl (g0, 4, .inl (fun _ => 0))), (h4, .inl (g1, 40, .inl (fun _ => 0))), (h6, .inr (4, [.ref r12, .ref r13, .ref r14, .ref r15, .int 0, .int (-1)])), (h5, .inr (3, [.ref h1, .ref r11, .int 0])), (h1, .inr (10, [.ref r10, .int 0, .int 0, .int 0, .int 0]))] := hD
      obtain rfl : ra4 = (0 : Int32) := hw
      refine lv_iconst (v := (-1)) hx hb dX11_text_43 (by decide) ?_
      refine lv_icmp_ne (tgt := 67) hx hb dX11_text_44 (by decide) (fun _ => ?_) (fun c => absurd c (by decide))
      refine lv_iconst (v := (-1)) hx hb dX11_text_67 (by decide) ?_
      have hP9 := hP.sub (ws' := [(h0, .inr (11, [.ref h1, .ref h2, .ref h5, .ref h6, .ref r0, .ref r1, .ref r2, .ref r3, .ref r4, .ref r5, .ref r6, .ref r7, .ref r8, .ref r9, .int 0, .int 5, .long 0])), (h5, .inr (3, [.ref h1, .ref r11, .int 0])), (h6, .inr (4, [.ref r12, .ref r13, .ref r14, .ref r15, .int 0, .int (-1)])), (h2, .inr (6, [.ref h1, .ref h3, .ref h4, .int 0, .int 0]))]) [0, 5, 4, 1] rfl
      have hD9 := hD.sub (ws' := [(h0, .inr (11, [.ref h1, .ref h2, .ref h5, .ref h6, .ref r0, .ref r1, .ref r2, .ref r3, .ref r4, .ref r5, .ref r6, .ref r7, .ref r8, .ref r9, .int 0, .int 5, .long 0])), (h5, .inr (3, [.ref h1, .ref r11, .int 0])), (h6, .inr (4, [.ref r12, .ref r13, .ref r14, .ref r15, .int 0, .int (-1)])), (h2, .inr (6, [.ref h1, .ref h3, .ref h4, .int 0, .int 0]))]) [0, 5, 4, 1] (by decide) rfl
      have hK9 := hK.sub (tys' := []) [] rfl
      exact W.iret (v := (-1)) hx hb hr (fun t ht hW => ⟨⟨(-1), (), rfl, rfl, by rw [ht]; exact hP9, va_K.moved hW.alike hK9, hD9⟩, hS.F ht⟩) hS.2.2 dX11_text_68
  · skip
    refine lv_aload_n hx hb dX11_text_4 rfl (lv_at hl 0 rfl) ?_
    refine va_get (D := (dC, dI)) (ci := 11) (v := .ref h2) (C := RX11) (T := TX11) (N := 17) hx hb hts (fun _ h => List.mem_cons_of_mem _ (List.mem_append_left _ (List.mem_append_left _ (List.mem_append_left _ (List.mem_append_left _ (List.mem_append_right _ h)))))) hown hK hP 0 rfl rfl 1 (by decide) (hts (.fieldLink RX11 21 "LeftArguments" "officeReader" "LLeftArguments$OfficeReader;") (List.mem_cons_of_mem _ (List.mem_append_left _ (List.mem_append_left _ (List.mem_append_left _ (List.mem_append_left _ (List.mem_append_left _ (List.mem_of_getElem? (i := 43) rfl)))))))) (fun _ h9 => h9) rfl dX11_text_5 ?_
    have hPc := hP.sub (ws' := [(h2, .inr (6, [.ref h1, .ref h3, .ref h4, .int 0, .int 0])), (h1, .inr (10, [.ref r10, .int 0, .int 0, .int (-1), .int 0])), (h3, .inl (g0, 4, .inl (fun _ => 0))), (h4, .inl (g1, 40, .inl (fun _ => 0)))]) [2, 1, 3, 4] rfl
    have hDc := hD.sub (ws' := [(h2, .inr (6, [.ref h1, .ref h3, .ref h4, .int 0, .int 0])), (h1, .inr (10, [.ref r10, .int 0, .int 0, .int (-1), .int 0])), (h3, .inl (g0, 4, .inl (fun _ => 0))), (h4, .inl (g1, 40, .inl (fun _ => 0)))]) [2, 1, 3, 4] (by decide) rfl
    have hKc := hK.sub (tys' := [(g0, .int), (g1, .int)]) [0, 1] rfl
    have hFc := va_free (wc := [(h2, .inr (6, [.ref h1, .ref h3, .ref h4, .int 0, .int 0])), (h1, .inr (10, [.ref r10, .int 0, .int 0, .int (-1), .int 0])), (h3, .inl (g0, 4, .inl (fun _ => 0))), (h4, .inl (g1, 40, .inl (fun _ => 0)))]) hD hS hA [2, 1, 3, 4] rfl
    refine va_calli (va_runV (As := []) (rest := []) ⟨hx, hb, hml, hown, hts⟩ (k_X6_read l dC dI g0 g1 h2 h1 h3 h4 r10  s.heap.size) (cwV 0 hts g_X11_text_2 rfl rfl rfl (by decide +kernel) ⟨Nat.le_of_ble_eq_true rfl, Nat.le_of_ble_eq_true rfl⟩) ⟨fun a U g mk q => by obtain ⟨q0, q1, qP, qK, qD, n0, n1⟩ := q; exact ⟨q0, q1, qP, va_K.moved (u := U) (U := U.calling g mk a) (Vm.Alike.refl U.vm) qK, qD, pv_St.moved (Vm.Alike.refl _) n0, pv_St.moved (Vm.Alike.refl _) n1⟩, va_recv hKc hPc (ci := 6) (q0 := 0) rfl rfl, fun U hU hW => ⟨rfl, by rw [hU], by rw [hU]; exact hPc, va_K.moved hW.alike hKc, hDc.weaken (fun _ _ _ _ => trivial), (by rw [hU]; exact ((pv_St.kept h_st_RULE_USUAL hS.2.1).moved hW.alike).narrow hFc), (by rw [hU]; exact ((pv_St.kept h_st_BAG_USUAL hS.2.1).moved hW.alike).narrow hFc)⟩⟩ rfl rfl hl.1 rfl (lv_room (Nat.le_of_ble_eq_true rfl)) dX11_text_8 ⟨Nat.le_of_ble_eq_true rfl, Nat.le_of_ble_eq_true rfl⟩) hS (fun q _ h => hFc q h) hFc (fun ra5 u t H1 locs ht hvm hw hB hz1 hk1 hS => ?_)
    obtain ⟨k6, k7, hP1, hK1, hD1⟩ := hB
    rw [ht] at hP1
    obtain ⟨hP, hD⟩ := va_join (wr := [(h0, .inr (11, [.ref h1, .ref h2, .ref h5, .ref h6, .ref r0, .ref r1, .ref r2, .ref r3, .ref r4, .ref r5, .ref r6, .ref r7, .ref r8, .ref r9, .int 0, .int 5, .long 0])), (h5, .inr (3, [.ref h1, .ref r11, .int 0])), (h6, .inr (4, [.ref r12, .ref r13, .ref r14, .ref r15, .int 0, .int (-1)]))]) (w1 := [(h3, .inl (g0, 4, .inl k6)), (h4, .inl (g1, 40, .inl k7)), (h2, .inr (6, [.ref h1, .ref h3, .ref h4, .int 0, .int 0])), (h1, .inr (10, [.ref r10, .int 0, .int 0, .int 0, .int 0]))]) hP hD [2, 1, 3, 4] [0, 5, 6] rfl rfl (by decide) (by decide) hk1 hFc hP1 hD1
    generalize H1 = H at hP hS ⊢
    have hP : va_P (dC, dI) vwCl [(h0, .inr (11, [.ref h1, .ref h2, .ref h5, .ref h6, .ref r0, .ref r1, .ref r2, .ref r3, .ref r4, .ref r5, .ref r6, .ref r7, .ref r8, .ref r9, .int 0, .int 5, .long 0])), (h5, .inr (3, [.ref h1, .ref r11, .int 0])), (h6, .inr (4, [.ref r12, .ref r13, .ref r14, .ref r15, .int 0, .int (-1)])), (h3, .inl (g0, 4, .inl k6)), (h4, .inl (g1, 40, .inl k7)), (h2, .inr (6, [.ref h1, .ref h3, .ref h4, .int 0, .int 0])), (h1, .inr (10, [.ref r10, .int 0, .int 0, .int 0, .int 0]))] H := hP
    have hD : va_D A [(h0, .inr (11, [.ref h1, .ref h2, .ref h5, .ref h6, .ref r0, .ref r1, .ref r2, .ref r3, .ref r4, .ref r5, .ref r6, .ref r7, .ref r8, .ref r9, .int 0, .int 5, .long 0])), (h5, .inr (3, [.ref h1, .ref r11, .int 0])), (h6, .inr (4, [.ref r12, .ref r13, .ref r14, .ref r15, .int 0, .int (-1)])), (h3, .inl (g0, 4, .inl k6)), (h4, .inl (g1, 40, .inl k7)), (h2, .inr (6, [.ref h1, .ref h3, .ref h4, .int 0, .int 0])), (h1, .inr (10, [.ref r10, .int 0, .int 0, .int 0, .int 0]))] := hD
    obtain rfl : ra5 = (0 : Int32) := hw
    refine lv_iconst (v := (-1)) hx hb dX11_text_11 (by decide) ?_
    refine lv_icmp_ne (tgt := 20) hx hb dX11_text_12 (by decide) (fun _ => ?_) (fun c => absurd c (by decide))
    refine lv_iload_n hx hb dX11_text_20 rfl (lv_at hl 1 rfl) ?_
    refine lv_iconst (v := 1) hx hb dX11_text_21 (by decide) ?_
    refine lv_icmp_ne (tgt := 67) hx hb dX11_text_22 (by decide) (fun _ => ?_) (fun c => absurd c (fun h8 => by (have t0 : v0.toInt = 0 := congrArg Int32.toInt c1; have t9 : v0.toInt = 1 := (congrArg Int32.toInt h8).trans rfl; omega)))
    refine lv_iconst (v := (-1)) hx hb dX11_text_67 (by decide) ?_
    have hP9 := hP.sub (ws' := [(h0, .inr (11, [.ref h1, .ref h2, .ref h5, .ref h6, .ref r0, .ref r1, .ref r2, .ref r3, .ref r4, .ref r5, .ref r6, .ref r7, .ref r8, .ref r9, .int 0, .int 5, .long 0])), (h5, .inr (3, [.ref h1, .ref r11, .int 0])), (h6, .inr (4, [.ref r12, .ref r13, .ref r14, .ref r15, .int 0, .int (-1)])), (h2, .inr (6, [.ref h1, .ref h3, .ref h4, .int 0, .int 0]))]) [0, 1, 2, 5] rfl
    have hD9 := hD.sub (ws' := [(h0, .inr (11, [.ref h1, .ref h2, .ref h5, .ref h6, .ref r0, .ref r1, .ref r2, .ref r3, .ref r4, .ref r5, .ref r6, .ref r7, .ref r8, .ref r9, .int 0, .int 5, .long 0])), (h5, .inr (3, [.ref h1, .ref r11, .int 0])), (h6, .inr (4, [.ref r12, .ref r13, .ref r14, .ref r15, .int 0, .int (-1)])), (h2, .inr (6, [.ref h1, .ref h3, .ref h4, .int 0, .int 0]))]) [0, 1, 2, 5] (by decide) rfl
    have hK9 := hK.sub (tys' := []) [] rfl
    exact W.iret (v := (-1)) hx hb hr (fun t ht hW => ⟨⟨(-1), (), rfl, rfl, by rw [ht]; exact hP9, va_K.moved hW.alike hK9, hD9⟩, hS.F ht⟩) hS.2.2 dX11_text_68
def q_X5_stands : List Cond := .code yX5_stands cX5_stands 1 (some .boolean) :: (([.fieldLink RX5 24 "LeftArguments$Office" "stands" "Z"] : List Cond) ++ wsX50)
set_option maxHeartbeats 4000000 in
set_option maxRecDepth 100000 in
theorem k_X5_stands (l : Launch) (dC : Nat → ClassId) (dI : Nat → Nat → Nat) (h0 : Nat) (r0 r1 : Nat) (sz : Nat) : Met l yX5_stands q_X5_stands ({ frames := 0, cells := 0, slots := 0, locals := 0 }) (va_Pc [.ref h0] (fun U => U.heap.size = sz ∧ va_P (dC, dI) vwCl [(h0, .inr (5, [.ref r0, .ref r1, .int 0, .int 0]))] U.heap ∧ va_K (dC, dI) vwCl [] U ∧ va_D (fun _ => True) [(h0, .inr (5, [.ref r0, .ref r1, .int 0, .int 0]))])) (va_Qi (fun (r : Int32) (_ : Unit) => r = 0) (fun (_ : Unit) (t : State) => va_P (dC, dI) vwCl [(h0, .inr (5, [.ref r0, .ref r1, .int 0, .int 0]))] t.heap ∧ va_K (dC, dI) vwCl [] t ∧ va_D (va_A [(h0, .inr (5, [.ref r0, .ref r1, .int 0, .int 0]))] sz) [(h0, .inr (5, [.ref r0, .ref r1, .int 0, .int 0]))]) (va_A [(h0, .inr (5, [.ref r0, .ref r1, .int 0, .int 0]))] sz)) 0 0 (va_A [(h0, .inr (5, [.ref r0, .ref r1, .int 0, .int 0]))] sz) := by
  refine Met.ofW (cc := cX5_stands) (maxL := 1) (ret := (some .boolean)) (by decide) rfl ?_
  intro p e s m args below meth c s₁ B hml hv
  obtain ⟨rfl, hsz, hP, hK, hD0⟩ := hv
  have hx := B.exec
  have hb := B.bytes
  have hr := B.returns
  have hts := atoms_spec (ws := q_X5_stands) B.pre
  have hown : s.vm.findClass RX5 = some m.cls := findClass_of_methodNamed B.named
  have hlocks := B.notSynchronized
  subst hsz
  have hD := hD0.self (sz := s.heap.size)
  generalize hAe : va_A [(h0, .inr (5, [.ref r0, .ref r1, .int 0, .int 0]))] s.heap.size = A at hD ⊢
  have hA : ∀ q : Nat, s.heap.size ≤ q → A q := fun q h => by rw [← hAe]; exact Or.inr h
  have hS : va_S A s.heap s.heap [] := va_S.rf
  have hl := lv_entry ([.ref h0]) (n := 1) (Nat.le_of_ble_eq_true rfl)
  rw [lg_entry_eq]
  generalize (lg_sl ([.ref h0]) ++ List.replicate (1 - (lg_sl ([.ref h0])).length) Slot.unset).toArray = ls at hl ⊢
  have hl : lv_has ls 1 [(0, .ref h0)] := hl
  refine lv_aload_n hx hb dX5_stands_0 rfl (lv_at hl 0 rfl) ?_
  refine va_get (D := (dC, dI)) (ci := 5) (v := .int 0) (C := RX5) (T := TX5) (N := 4) hx hb hts (fun _ h => List.mem_cons_of_mem _ (List.mem_append_right _ h)) hown hK hP 0 rfl rfl 3 (by decide) (hts (.fieldLink RX5 24 "LeftArguments$Office" "stands" "Z") (List.mem_cons_of_mem _ (List.mem_append_left _ (List.mem_of_getElem? (i := 0) rfl)))) (fun _ h9 => h9) rfl dX5_stands_1 ?_
  have hP9 := hP.sub (ws' := [(h0, .inr (5, [.ref r0, .ref r1, .int 0, .int 0]))]) [0] rfl
  have hD9 := hD.sub (ws' := [(h0, .inr (5, [.ref r0, .ref r1, .int 0, .int 0]))]) [0] (by decide) rfl
  have hK9 := hK.sub (tys' := []) [] rfl
  exact W.zret (v := 0) hx hb hr rfl (fun t ht hW => ⟨⟨0, (), rfl, rfl, by rw [ht]; exact hP9, va_K.moved hW.alike hK9, hD9⟩, hS.F ht⟩) hS.2.2 dX5_stands_4
def q_X11_rule : List Cond := .code yX11_rule cX11_rule 2 (some .int) :: (([.fieldLink RX11 42 "LeftArguments" "office" "LLeftArguments$Office;", .code yX5_stands cX5_stands 1 (some .boolean), .fieldLink RX5 24 "LeftArguments$Office" "stands" "Z", .initialized RX5, .instanceMethod yX5_stands, .selects RX5 yX5_stands yX5_stands, .methodLink RX11 159 yX5_stands] : List Cond) ++ wsX110 ++ wsX50)
set_option maxRecDepth 20000 in
theorem g_X11_rule_0 : GoodIn q_X11_rule (wsV RX11 159 RX5 yX5_stands q_X5_stands) := goodIn_app (goodIn_r _ [7, 5, 6, 4] (by decide +kernel) (by decide +kernel)) (goodIn_ca (goodIn_r (.code yX5_stands cX5_stands 1 (some .boolean) :: [.fieldLink RX5 24 "LeftArguments$Office" "stands" "Z"]) [2, 3] (by decide +kernel) (by decide +kernel)) (goodIn_sub (fun _ h => List.mem_cons_of_mem _ (List.mem_append_right _ h)) gwX5))
set_option maxHeartbeats 4000000 in
set_option maxRecDepth 100000 in
theorem k_X11_rule (l : Launch) (dC : Nat → ClassId) (dI : Nat → Nat → Nat) (h0 h1 : Nat) (r0 r1 r2 r3 r4 r5 r6 r7 r8 r9 r10 r11 r12 r13 r14 : Nat) (v0 : Int32) (sz : Nat) : Met l yX11_rule q_X11_rule ({ frames := 1, cells := 0, slots := 0, locals := 20 }) (va_Pc [.ref h0, .int v0] (fun U => U.heap.size = sz ∧ va_P (dC, dI) vwCl [(h0, .inr (11, [.ref r0, .ref r1, .ref r2, .ref r3, .ref h1, .ref r4, .ref r5, .ref r6, .ref r7, .ref r8, .ref r9, .ref r10, .ref r11, .ref r12, .int 0, .int 5, .long 0])), (h1, .inr (5, [.ref r13, .ref r14, .int 0, .int 0]))] U.heap ∧ va_K (dC, dI) vwCl [] U ∧ va_D (fun _ => True) [(h0, .inr (11, [.ref r0, .ref r1, .ref r2, .ref r3, .ref h1, .ref r4, .ref r5, .ref r6, .ref r7, .ref r8, .ref r9, .ref r10, .ref r11, .ref r12, .int 0, .int 5, .long 0])), (h1, .inr (5, [.ref r13, .ref r14, .int 0, .int 0]))])) (va_Qi (fun (r : Int32) (_ : Unit) => r = (-1)) (fun (_ : Unit) (t : State) => va_P (dC, dI) vwCl [(h0, .inr (11, [.ref r0, .ref r1, .ref r2, .ref r3, .ref h1, .ref r4, .ref r5, .ref r6, .ref r7, .ref r8, .ref r9, .ref r10, .ref r11, .ref r12, .int 0, .int 5, .long 0])), (h1, .inr (5, [.ref r13, .ref r14, .int 0, .int 0]))] t.heap ∧ va_K (dC, dI) vwCl [] t ∧ va_D (va_A [(h0, .inr (11, [.ref r0, .ref r1, .ref r2, .ref r3, .ref h1, .ref r4, .ref r5, .ref r6, .ref r7, .ref r8, .ref r9, .ref r10, .ref r11, .ref r12, .int 0, .int 5, .long 0])), (h1, .inr (5, [.ref r13, .ref r14, .int 0, .int 0]))] sz) [(h0, .inr (11, [.ref r0, .ref r1, .ref r2, .ref r3, .ref h1, .ref r4, .ref r5, .ref r6, .ref r7, .ref r8, .ref r9, .ref r10, .ref r11, .ref r12, .int 0, .int 5, .long 0])), (h1, .inr (5, [.ref r13, .ref r14, .int 0, .int 0]))]) (va_A [(h0, .inr (11, [.ref r0, .ref r1, .ref r2, .ref r3, .ref h1, .ref r4, .ref r5, .ref r6, .ref r7, .ref r8, .ref r9, .ref r10, .ref r11, .ref r12, .int 0, .int 5, .long 0])), (h1, .inr (5, [.ref r13, .ref r14, .int 0, .int 0]))] sz)) 0 0 (va_A [(h0, .inr (11, [.ref r0, .ref r1, .ref r2, .ref r3, .ref h1, .ref r4, .ref r5, .ref r6, .ref r7, .ref r8, .ref r9, .ref r10, .ref r11, .ref r12, .int 0, .int 5, .long 0])), (h1, .inr (5, [.ref r13, .ref r14, .int 0, .int 0]))] sz) := by
  refine Met.ofW (cc := cX11_rule) (maxL := 2) (ret := (some .int)) (by decide) rfl ?_
  intro p e s m args below meth c s₁ B hml hv
  obtain ⟨rfl, hsz, hP, hK, hD0⟩ := hv
  have hx := B.exec
  have hb := B.bytes
  have hr := B.returns
  have hts := atoms_spec (ws := q_X11_rule) B.pre
  have hown : s.vm.findClass RX11 = some m.cls := findClass_of_methodNamed B.named
  have hlocks := B.notSynchronized
  subst hsz
  have hD := hD0.self (sz := s.heap.size)
  generalize hAe : va_A [(h0, .inr (11, [.ref r0, .ref r1, .ref r2, .ref r3, .ref h1, .ref r4, .ref r5, .ref r6, .ref r7, .ref r8, .ref r9, .ref r10, .ref r11, .ref r12, .int 0, .int 5, .long 0])), (h1, .inr (5, [.ref r13, .ref r14, .int 0, .int 0]))] s.heap.size = A at hD ⊢
  have hA : ∀ q : Nat, s.heap.size ≤ q → A q := fun q h => by rw [← hAe]; exact Or.inr h
  have hS : va_S A s.heap s.heap [] := va_S.rf
  have hl := lv_entry ([.ref h0, .int v0]) (n := 2) (Nat.le_of_ble_eq_true rfl)
  rw [lg_entry_eq]
  generalize (lg_sl ([.ref h0, .int v0]) ++ List.replicate (2 - (lg_sl ([.ref h0, .int v0])).length) Slot.unset).toArray = ls at hl ⊢
  have hl : lv_has ls 2 [(0, .ref h0), (1, .int v0)] := hl
  refine lv_aload_n hx hb dX11_rule_0 rfl (lv_at hl 0 rfl) ?_
  refine va_get (D := (dC, dI)) (ci := 11) (v := .ref h1) (C := RX11) (T := TX11) (N := 17) hx hb hts (fun _ h => List.mem_cons_of_mem _ (List.mem_append_left _ (List.mem_append_right _ h))) hown hK hP 0 rfl rfl 4 (by decide) (hts (.fieldLink RX11 42 "LeftArguments" "office" "LLeftArguments$Office;") (List.mem_cons_of_mem _ (List.mem_append_left _ (List.mem_append_left _ (List.mem_of_getElem? (i := 0) rfl))))) (fun _ h9 => h9) rfl dX11_rule_1 ?_
  have hPc := hP.sub (ws' := [(h1, .inr (5, [.ref r13, .ref r14, .int 0, .int 0]))]) [1] rfl
  have hDc := hD.sub (ws' := [(h1, .inr (5, [.ref r13, .ref r14, .int 0, .int 0]))]) [1] (by decide) rfl
  have hKc := hK.sub (tys' := []) [] rfl
  have hFc := va_free (wc := [(h1, .inr (5, [.ref r13, .ref r14, .int 0, .int 0]))]) hD hS hA [1] rfl
  refine va_calli (va_runV (As := []) (rest := []) ⟨hx, hb, hml, hown, hts⟩ (k_X5_stands l dC dI h1 r13 r14  s.heap.size) (cwV 0 hts g_X11_rule_0 rfl rfl rfl (by decide +kernel) ⟨Nat.le_of_ble_eq_true rfl, Nat.le_of_ble_eq_true rfl⟩) ⟨fun a U g mk q => by obtain ⟨q0, q1, qP, qK, qD⟩ := q; exact ⟨q0, q1, qP, va_K.moved (u := U) (U := U.calling g mk a) (Vm.Alike.refl U.vm) qK, qD⟩, va_recv hKc hPc (ci := 5) (q0 := 0) rfl rfl, fun U hU hW => ⟨rfl, by rw [hU], by rw [hU]; exact hPc, va_K.moved hW.alike hKc, hDc.weaken (fun _ _ _ _ => trivial)⟩⟩ rfl rfl hl.1 rfl (lv_room (Nat.le_of_ble_eq_true rfl)) dX11_rule_4 ⟨Nat.le_of_ble_eq_true rfl, Nat.le_of_ble_eq_true rfl⟩) hS (fun q _ h => hFc q h) hFc (fun ra1 u t H1 locs ht hvm hw hB hz1 hk1 hS => ?_)
  obtain ⟨hP1, hK1, hD1⟩ := hB
  rw [ht] at hP1
  obtain ⟨hP, hD⟩ := va_join (wr := [(h0, .inr (11, [.ref r0, .ref r1, .ref r2, .ref r3, .ref h1, .ref r4, .ref r5, .ref r6, .ref r7, .ref r8, .ref r9, .ref r10, .ref r11, .ref r12, .int 0, .int 5, .long 0]))]) (w1 := [(h1, .inr (5, [.ref r13, .ref r14, .int 0, .int 0]))]) hP hD [1] [0] rfl rfl (by decide) (by decide) hk1 hFc hP1 hD1
  generalize H1 = H at hP hS ⊢
  have hP : va_P (dC, dI) vwCl [(h0, .inr (11, [.ref r0, .ref r1, .ref r2, .ref r3, .ref h1, .ref r4, .ref r5, .ref r6, .ref r7, .ref r8, .ref r9, .ref r10, .ref r11, .ref r12, .int 0, .int 5, .long 0])), (h1, .inr (5, [.ref r13, .ref r14, .int 0, .int 0]))] H := hP
  have hD : va_D A [(h0, .inr (11, [.ref r0, .ref r1, .ref r2, .ref r3, .ref h1, .ref r4, .ref r5, .ref r6, .ref r7, .ref r8, .ref r9, .ref r10, .ref r11, .ref r12, .int 0, .int 5, .long 0])), (h1, .inr (5, [.ref r13, .ref r14, .int 0, .int 0]))] := hD
  obtain rfl : ra1 = (0 : Int32) := hw
  refine lv_if_ne (tgt := 12) hx hb dX11_rule_7 (by decide) (fun c => absurd (by decide) c) (fun _ => ?_)
  refine lv_iconst (v := (-1)) hx hb dX11_rule_10 (by decide) ?_
  have hP9 := hP.sub (ws' := [(h0, .inr (11, [.ref r0, .ref r1, .ref r2, .ref r3, .ref h1, .ref r4, .ref r5, .ref r6, .ref r7, .ref r8, .ref r9, .ref r10, .ref r11, .ref r12, .int 0, .int 5, .long 0])), (h1, .inr (5, [.ref r13, .ref r14, .int 0, .int 0]))]) [0, 1] rfl
  have hD9 := hD.sub (ws' := [(h0, .inr (11, [.ref r0, .ref r1, .ref r2, .ref r3, .ref h1, .ref r4, .ref r5, .ref r6, .ref r7, .ref r8, .ref r9, .ref r10, .ref r11, .ref r12, .int 0, .int 5, .long 0])), (h1, .inr (5, [.ref r13, .ref r14, .int 0, .int 0]))]) [0, 1] (by decide) rfl
  have hK9 := hK.sub (tys' := []) [] rfl
  exact W.iret (v := (-1)) hx hb hr (fun t ht hW => ⟨⟨(-1), (), rfl, rfl, by rw [ht]; exact hP9, va_K.moved hW.alike hK9, hD9⟩, hS.F ht⟩) hS.2.2 dX11_rule_11
def q_X11_load : List Cond := .code yX11_load cX11_load 2 (some .int) :: (([.fieldLink RX11 42 "LeftArguments" "office" "LLeftArguments$Office;", .code yX5_stands cX5_stands 1 (some .boolean), .fieldLink RX5 24 "LeftArguments$Office" "stands" "Z", .initialized RX5, .instanceMethod yX5_stands, .selects RX5 yX5_stands yX5_stands, .methodLink RX11 159 yX5_stands] : List Cond) ++ wsX110 ++ wsX50)
set_option maxRecDepth 20000 in
theorem g_X11_load_0 : GoodIn q_X11_load (wsV RX11 159 RX5 yX5_stands q_X5_stands) := goodIn_app (goodIn_r _ [7, 5, 6, 4] (by decide +kernel) (by decide +kernel)) (goodIn_ca (goodIn_r (.code yX5_stands cX5_stands 1 (some .boolean) :: [.fieldLink RX5 24 "LeftArguments$Office" "stands" "Z"]) [2, 3] (by decide +kernel) (by decide +kernel)) (goodIn_sub (fun _ h => List.mem_cons_of_mem _ (List.mem_append_right _ h)) gwX5))
set_option maxHeartbeats 4000000 in
set_option maxRecDepth 100000 in
theorem k_X11_load (l : Launch) (dC : Nat → ClassId) (dI : Nat → Nat → Nat) (h0 h1 : Nat) (r0 r1 r2 r3 r4 r5 r6 r7 r8 r9 r10 r11 r12 r13 r14 : Nat) (v0 : Int32) (sz : Nat) : Met l yX11_load q_X11_load ({ frames := 1, cells := 0, slots := 0, locals := 20 }) (va_Pc [.ref h0, .int v0] (fun U => U.heap.size = sz ∧ va_P (dC, dI) vwCl [(h0, .inr (11, [.ref r0, .ref r1, .ref r2, .ref r3, .ref h1, .ref r4, .ref r5, .ref r6, .ref r7, .ref r8, .ref r9, .ref r10, .ref r11, .ref r12, .int 0, .int 5, .long 0])), (h1, .inr (5, [.ref r13, .ref r14, .int 0, .int 0]))] U.heap ∧ va_K (dC, dI) vwCl [] U ∧ va_D (fun _ => True) [(h0, .inr (11, [.ref r0, .ref r1, .ref r2, .ref r3, .ref h1, .ref r4, .ref r5, .ref r6, .ref r7, .ref r8, .ref r9, .ref r10, .ref r11, .ref r12, .int 0, .int 5, .long 0])), (h1, .inr (5, [.ref r13, .ref r14, .int 0, .int 0]))])) (va_Qi (fun (r : Int32) (_ : Unit) => r = (-1)) (fun (_ : Unit) (t : State) => va_P (dC, dI) vwCl [(h0, .inr (11, [.ref r0, .ref r1, .ref r2, .ref r3, .ref h1, .ref r4, .ref r5, .ref r6, .ref r7, .ref r8, .ref r9, .ref r10, .ref r11, .ref r12, .int 0, .int 5, .long 0])), (h1, .inr (5, [.ref r13, .ref r14, .int 0, .int 0]))] t.heap ∧ va_K (dC, dI) vwCl [] t ∧ va_D (va_A [(h0, .inr (11, [.ref r0, .ref r1, .ref r2, .ref r3, .ref h1, .ref r4, .ref r5, .ref r6, .ref r7, .ref r8, .ref r9, .ref r10, .ref r11, .ref r12, .int 0, .int 5, .long 0])), (h1, .inr (5, [.ref r13, .ref r14, .int 0, .int 0]))] sz) [(h0, .inr (11, [.ref r0, .ref r1, .ref r2, .ref r3, .ref h1, .ref r4, .ref r5, .ref r6, .ref r7, .ref r8, .ref r9, .ref r10, .ref r11, .ref r12, .int 0, .int 5, .long 0])), (h1, .inr (5, [.ref r13, .ref r14, .int 0, .int 0]))]) (va_A [(h0, .inr (11, [.ref r0, .ref r1, .ref r2, .ref r3, .ref h1, .ref r4, .ref r5, .ref r6, .ref r7, .ref r8, .ref r9, .ref r10, .ref r11, .ref r12, .int 0, .int 5, .long 0])), (h1, .inr (5, [.ref r13, .ref r14, .int 0, .int 0]))] sz)) 0 0 (va_A [(h0, .inr (11, [.ref r0, .ref r1, .ref r2, .ref r3, .ref h1, .ref r4, .ref r5, .ref r6, .ref r7, .ref r8, .ref r9, .ref r10, .ref r11, .ref r12, .int 0, .int 5, .long 0])), (h1, .inr (5, [.ref r13, .ref r14, .int 0, .int 0]))] sz) := by
  refine Met.ofW (cc := cX11_load) (maxL := 2) (ret := (some .int)) (by decide) rfl ?_
  intro p e s m args below meth c s₁ B hml hv
  obtain ⟨rfl, hsz, hP, hK, hD0⟩ := hv
  have hx := B.exec
  have hb := B.bytes
  have hr := B.returns
  have hts := atoms_spec (ws := q_X11_load) B.pre
  have hown : s.vm.findClass RX11 = some m.cls := findClass_of_methodNamed B.named
  have hlocks := B.notSynchronized
  subst hsz
  have hD := hD0.self (sz := s.heap.size)
  generalize hAe : va_A [(h0, .inr (11, [.ref r0, .ref r1, .ref r2, .ref r3, .ref h1, .ref r4, .ref r5, .ref r6, .ref r7, .ref r8, .ref r9, .ref r10, .ref r11, .ref r12, .int 0, .int 5, .long 0])), (h1, .inr (5, [.ref r13, .ref r14, .int 0, .int 0]))] s.heap.size = A at hD ⊢
  have hA : ∀ q : Nat, s.heap.size ≤ q → A q := fun q h => by rw [← hAe]; exact Or.inr h
  have hS : va_S A s.heap s.heap [] := va_S.rf
  have hl := lv_entry ([.ref h0, .int v0]) (n := 2) (Nat.le_of_ble_eq_true rfl)
  rw [lg_entry_eq]
  generalize (lg_sl ([.ref h0, .int v0]) ++ List.replicate (2 - (lg_sl ([.ref h0, .int v0])).length) Slot.unset).toArray = ls at hl ⊢
  have hl : lv_has ls 2 [(0, .ref h0), (1, .int v0)] := hl
  refine lv_aload_n hx hb dX11_load_0 rfl (lv_at hl 0 rfl) ?_
  refine va_get (D := (dC, dI)) (ci := 11) (v := .ref h1) (C := RX11) (T := TX11) (N := 17) hx hb hts (fun _ h => List.mem_cons_of_mem _ (List.mem_append_left _ (List.mem_append_right _ h))) hown hK hP 0 rfl rfl 4 (by decide) (hts (.fieldLink RX11 42 "LeftArguments" "office" "LLeftArguments$Office;") (List.mem_cons_of_mem _ (List.mem_append_left _ (List.mem_append_left _ (List.mem_of_getElem? (i := 0) rfl))))) (fun _ h9 => h9) rfl dX11_load_1 ?_
  have hPc := hP.sub (ws' := [(h1, .inr (5, [.ref r13, .ref r14, .int 0, .int 0]))]) [1] rfl
  have hDc := hD.sub (ws' := [(h1, .inr (5, [.ref r13, .ref r14, .int 0, .int 0]))]) [1] (by decide) rfl
  have hKc := hK.sub (tys' := []) [] rfl
  have hFc := va_free (wc := [(h1, .inr (5, [.ref r13, .ref r14, .int 0, .int 0]))]) hD hS hA [1] rfl
  refine va_calli (va_runV (As := []) (rest := []) ⟨hx, hb, hml, hown, hts⟩ (k_X5_stands l dC dI h1 r13 r14  s.heap.size) (cwV 0 hts g_X11_load_0 rfl rfl rfl (by decide +kernel) ⟨Nat.le_of_ble_eq_true rfl, Nat.le_of_ble_eq_true rfl⟩) ⟨fun a U g mk q => by obtain ⟨q0, q1, qP, qK, qD⟩ := q; exact ⟨q0, q1, qP, va_K.moved (u := U) (U := U.calling g mk a) (Vm.Alike.refl U.vm) qK, qD⟩, va_recv hKc hPc (ci := 5) (q0 := 0) rfl rfl, fun U hU hW => ⟨rfl, by rw [hU], by rw [hU]; exact hPc, va_K.moved hW.alike hKc, hDc.weaken (fun _ _ _ _ => trivial)⟩⟩ rfl rfl hl.1 rfl (lv_room (Nat.le_of_ble_eq_true rfl)) dX11_load_4 ⟨Nat.le_of_ble_eq_true rfl, Nat.le_of_ble_eq_true rfl⟩) hS (fun q _ h => hFc q h) hFc (fun ra1 u t H1 locs ht hvm hw hB hz1 hk1 hS => ?_)
  obtain ⟨hP1, hK1, hD1⟩ := hB
  rw [ht] at hP1
  obtain ⟨hP, hD⟩ := va_join (wr := [(h0, .inr (11, [.ref r0, .ref r1, .ref r2, .ref r3, .ref h1, .ref r4, .ref r5, .ref r6, .ref r7, .ref r8, .ref r9, .ref r10, .ref r11, .ref r12, .int 0, .int 5, .long 0]))]) (w1 := [(h1, .inr (5, [.ref r13, .ref r14, .int 0, .int 0]))]) hP hD [1] [0] rfl rfl (by decide) (by decide) hk1 hFc hP1 hD1
  generalize H1 = H at hP hS ⊢
  have hP : va_P (dC, dI) vwCl [(h0, .inr (11, [.ref r0, .ref r1, .ref r2, .ref r3, .ref h1, .ref r4, .ref r5, .ref r6, .ref r7, .ref r8, .ref r9, .ref r10, .ref r11, .ref r12, .int 0, .int 5, .long 0])), (h1, .inr (5, [.ref r13, .ref r14, .int 0, .int 0]))] H := hP
  have hD : va_D A [(h0, .inr (11, [.ref r0, .ref r1, .ref r2, .ref r3, .ref h1, .ref r4, .ref r5, .ref r6, .ref r7, .ref r8, .ref r9, .ref r10, .ref r11, .ref r12, .int 0, .int 5, .long 0])), (h1, .inr (5, [.ref r13, .ref r14, .int 0, .int 0]))] := hD
  obtain rfl : ra1 = (0 : Int32) := hw
  refine lv_if_eq (tgt := 27) hx hb dX11_load_7 (by decide) (fun _ => ?_) (fun c => absurd (by decide) c)
  refine lv_iconst (v := (-1)) hx hb dX11_load_27 (by decide) ?_
  have hP9 := hP.sub (ws' := [(h0, .inr (11, [.ref r0, .ref r1, .ref r2, .ref r3, .ref h1, .ref r4, .ref r5, .ref r6, .ref r7, .ref r8, .ref r9, .ref r10, .ref r11, .ref r12, .int 0, .int 5, .long 0])), (h1, .inr (5, [.ref r13, .ref r14, .int 0, .int 0]))]) [0, 1] rfl
  have hD9 := hD.sub (ws' := [(h0, .inr (11, [.ref r0, .ref r1, .ref r2, .ref r3, .ref h1, .ref r4, .ref r5, .ref r6, .ref r7, .ref r8, .ref r9, .ref r10, .ref r11, .ref r12, .int 0, .int 5, .long 0])), (h1, .inr (5, [.ref r13, .ref r14, .int 0, .int 0]))]) [0, 1] (by decide) rfl
  have hK9 := hK.sub (tys' := []) [] rfl
  exact W.iret (v := (-1)) hx hb hr (fun t ht hW => ⟨⟨(-1), (), rfl, rfl, by rw [ht]; exact hP9, va_K.moved hW.alike hK9, hD9⟩, hS.F ht⟩) hS.2.2 dX11_load_28
def q_X4_choose : List Cond := .code yX4_choose cX4_choose 2 (some .boolean) :: (([.fieldLink RX4 28 "LeftArguments$Laws" "number" "I", .fieldLink RX4 32 "LeftArguments$Laws" "chosen" "I"] : List Cond) ++ wsX40)
set_option maxHeartbeats 4000000 in
set_option maxRecDepth 100000 in
theorem k_X4_choose (l : Launch) (dC : Nat → ClassId) (dI : Nat → Nat → Nat) (h0 : Nat) (r0 r1 r2 r3 : Nat) (v0 : Int32) (sz : Nat) : Met l yX4_choose q_X4_choose ({ frames := 0, cells := 0, slots := 0, locals := 0 }) (va_Pc [.ref h0, .int v0] (fun U => U.heap.size = sz ∧ va_P (dC, dI) vwCl [(h0, .inr (4, [.ref r0, .ref r1, .ref r2, .ref r3, .int 0, .int (-1)]))] U.heap ∧ va_K (dC, dI) vwCl [] U ∧ va_D (fun _ => True) [(h0, .inr (4, [.ref r0, .ref r1, .ref r2, .ref r3, .int 0, .int (-1)]))])) (va_Qi (fun (r : Int32) (_ : Unit) => r = (if v0 < (-1) then 0 else (if v0 < 0 then 1 else 0))) (fun (_ : Unit) (t : State) => va_P (dC, dI) vwCl [] t.heap ∧ va_K (dC, dI) vwCl [] t ∧ va_D (va_A [(h0, .inr (4, [.ref r0, .ref r1, .ref r2, .ref r3, .int 0, .int (-1)]))] sz) []) (va_A [(h0, .inr (4, [.ref r0, .ref r1, .ref r2, .ref r3, .int 0, .int (-1)]))] sz)) 0 0 (va_A [(h0, .inr (4, [.ref r0, .ref r1, .ref r2, .ref r3, .int 0, .int (-1)]))] sz) := by
  refine Met.ofW (cc := cX4_choose) (maxL := 2) (ret := (some .boolean)) (by decide) rfl ?_
  intro p e s m args below meth c s₁ B hml hv
  obtain ⟨rfl, hsz, hP, hK, hD0⟩ := hv
  have hx := B.exec
  have hb := B.bytes
  have hr := B.returns
  have hts := atoms_spec (ws := q_X4_choose) B.pre
  have hown : s.vm.findClass RX4 = some m.cls := findClass_of_methodNamed B.named
  have hlocks := B.notSynchronized
  subst hsz
  have hD := hD0.self (sz := s.heap.size)
  generalize hAe : va_A [(h0, .inr (4, [.ref r0, .ref r1, .ref r2, .ref r3, .int 0, .int (-1)]))] s.heap.size = A at hD ⊢
  have hA : ∀ q : Nat, s.heap.size ≤ q → A q := fun q h => by rw [← hAe]; exact Or.inr h
  have hS : va_S A s.heap s.heap [] := va_S.rf
  have hl := lv_entry ([.ref h0, .int v0]) (n := 2) (Nat.le_of_ble_eq_true rfl)
  rw [lg_entry_eq]
  generalize (lg_sl ([.ref h0, .int v0]) ++ List.replicate (2 - (lg_sl ([.ref h0, .int v0])).length) Slot.unset).toArray = ls at hl ⊢
  have hl : lv_has ls 2 [(0, .ref h0), (1, .int v0)] := hl
  refine lv_iload_n hx hb dX4_choose_0 rfl (lv_at hl 1 rfl) ?_
  refine lv_iconst (v := (-1)) hx hb dX4_choose_1 (by decide) ?_
  refine lv_icmp_lt (tgt := 13) hx hb dX4_choose_2 (by decide) (fun c1 => ?_) (fun c1 => ?_)
  · skip
    refine lv_iconst (v := 0) hx hb dX4_choose_13 (by decide) ?_
    have hP9 := hP.sub (ws' := []) [] rfl
    have hD9 := hD.sub (ws' := []) [] (by decide) rfl
    have hK9 := hK.sub (tys' := []) [] rfl
    exact W.zret (v := 0) hx hb hr rfl (fun t ht hW => ⟨⟨0, (), rfl, by rw [if_pos c1], by rw [ht]; exact hP9, va_K.moved hW.alike hK9, hD9⟩, hS.F ht⟩) hS.2.2 dX4_choose_14
  · skip
    refine lv_iload_n hx hb dX4_choose_5 rfl (lv_at hl 1 rfl) ?_
    refine lv_aload_n hx hb dX4_choose_6 rfl (lv_at hl 0 rfl) ?_
    refine va_get (D := (dC, dI)) (ci := 4) (v := .int 0) (C := RX4) (T := TX4) (N := 6) hx hb hts (fun _ h => List.mem_cons_of_mem _ (List.mem_append_right _ h)) hown hK hP 0 rfl rfl 4 (by decide) (hts (.fieldLink RX4 28 "LeftArguments$Laws" "number" "I") (List.mem_cons_of_mem _ (List.mem_append_left _ (List.mem_of_getElem? (i := 0) rfl)))) (fun _ h9 => h9) rfl dX4_choose_7 ?_
    refine lv_icmp_lt (tgt := 15) hx hb dX4_choose_10 (by decide) (fun c2 => ?_) (fun c2 => ?_)
    · skip
      refine lv_aload_n hx hb dX4_choose_15 rfl (lv_at hl 0 rfl) ?_
      refine lv_iload_n hx hb dX4_choose_16 rfl (lv_at hl 1 rfl) ?_
      refine va_put (D := (dC, dI)) (ci := 4) (v := .int v0) (ty := .int) (C := RX4) (T := TX4) (N := 6) hx hb hts (fun _ h => List.mem_cons_of_mem _ (List.mem_append_right _ h)) tyX4 tyX4_ok nmX4 hown hK hP hD hS 0 rfl rfl 5 (by decide) (hts (.fieldLink RX4 32 "LeftArguments$Laws" "chosen" "I") (List.mem_cons_of_mem _ (List.mem_append_left _ (List.mem_of_getElem? (i := 1) rfl)))) (fun _ h9 => h9) rfl (by decide +kernel) rfl rfl (Nat.le_of_ble_eq_true rfl) dX4_choose_17 (fun H locs hP hD hS => ?_)
      have hP : va_P (dC, dI) vwCl [(h0, .inr (4, [.ref r0, .ref r1, .ref r2, .ref r3, .int 0, .int v0]))] H := hP
      have hD : va_D A [(h0, .inr (4, [.ref r0, .ref r1, .ref r2, .ref r3, .int 0, .int v0]))] := hD
      refine lv_iconst (v := 1) hx hb dX4_choose_20 (by decide) ?_
      have hP9 := hP.sub (ws' := []) [] rfl
      have hD9 := hD.sub (ws' := []) [] (by decide) rfl
      have hK9 := hK.sub (tys' := []) [] rfl
      exact W.zret (v := 1) hx hb hr rfl (fun t ht hW => ⟨⟨1, (), rfl, by rw [if_neg c1, if_pos c2], by rw [ht]; exact hP9, va_K.moved hW.alike hK9, hD9⟩, hS.F ht⟩) hS.2.2 dX4_choose_21
    · skip
      refine lv_iconst (v := 0) hx hb dX4_choose_13 (by decide) ?_
      have hP9 := hP.sub (ws' := []) [] rfl
      have hD9 := hD.sub (ws' := []) [] (by decide) rfl
      have hK9 := hK.sub (tys' := []) [] rfl
      exact W.zret (v := 0) hx hb hr rfl (fun t ht hW => ⟨⟨0, (), rfl, by rw [if_neg c1, if_neg c2], by rw [ht]; exact hP9, va_K.moved hW.alike hK9, hD9⟩, hS.F ht⟩) hS.2.2 dX4_choose_14
def q_X11_law : List Cond := .code yX11_law cX11_law 2 (some .boolean) :: (([.fieldLink RX11 35 "LeftArguments" "laws" "LLeftArguments$Laws;", .code yX4_choose cX4_choose 2 (some .boolean), .fieldLink RX4 28 "LeftArguments$Laws" "number" "I", .fieldLink RX4 32 "LeftArguments$Laws" "chosen" "I", .initialized RX4, .instanceMethod yX4_choose, .selects RX4 yX4_choose yX4_choose, .methodLink RX11 155 yX4_choose] : List Cond) ++ wsX110 ++ wsX40)
set_option maxRecDepth 20000 in
theorem g_X11_law_0 : GoodIn q_X11_law (wsV RX11 155 RX4 yX4_choose q_X4_choose) := goodIn_app (goodIn_r _ [8, 6, 7, 5] (by decide +kernel) (by decide +kernel)) (goodIn_ca (goodIn_r (.code yX4_choose cX4_choose 2 (some .boolean) :: [.fieldLink RX4 28 "LeftArguments$Laws" "number" "I", .fieldLink RX4 32 "LeftArguments$Laws" "chosen" "I"]) [2, 3, 4] (by decide +kernel) (by decide +kernel)) (goodIn_sub (fun _ h => List.mem_cons_of_mem _ (List.mem_append_right _ h)) gwX4))
set_option maxHeartbeats 4000000 in
set_option maxRecDepth 100000 in
theorem k_X11_law (l : Launch) (dC : Nat → ClassId) (dI : Nat → Nat → Nat) (h0 h1 : Nat) (r0 r1 r2 r3 r4 r5 r6 r7 r8 r9 r10 r11 r12 r13 r14 r15 r16 : Nat) (v0 : Int32) (sz : Nat) : Met l yX11_law q_X11_law ({ frames := 1, cells := 0, slots := 0, locals := 21 }) (va_Pc [.ref h0, .int v0] (fun U => U.heap.size = sz ∧ va_P (dC, dI) vwCl [(h0, .inr (11, [.ref r0, .ref r1, .ref r2, .ref h1, .ref r3, .ref r4, .ref r5, .ref r6, .ref r7, .ref r8, .ref r9, .ref r10, .ref r11, .ref r12, .int 0, .int 5, .long 0])), (h1, .inr (4, [.ref r13, .ref r14, .ref r15, .ref r16, .int 0, .int (-1)]))] U.heap ∧ va_K (dC, dI) vwCl [] U ∧ va_D (fun _ => True) [(h0, .inr (11, [.ref r0, .ref r1, .ref r2, .ref h1, .ref r3, .ref r4, .ref r5, .ref r6, .ref r7, .ref r8, .ref r9, .ref r10, .ref r11, .ref r12, .int 0, .int 5, .long 0])), (h1, .inr (4, [.ref r13, .ref r14, .ref r15, .ref r16, .int 0, .int (-1)]))])) (va_Qi (fun (r : Int32) (_ : Unit) => r = (if v0 < (-1) then 0 else (if v0 < 0 then 1 else 0))) (fun (_ : Unit) (t : State) => va_P (dC, dI) vwCl [(h0, .inr (11, [.ref r0, .ref r1, .ref r2, .ref h1, .ref r3, .ref r4, .ref r5, .ref r6, .ref r7, .ref r8, .ref r9, .ref r10, .ref r11, .ref r12, .int 0, .int 5, .long 0]))] t.heap ∧ va_K (dC, dI) vwCl [] t ∧ va_D (va_A [(h0, .inr (11, [.ref r0, .ref r1, .ref r2, .ref h1, .ref r3, .ref r4, .ref r5, .ref r6, .ref r7, .ref r8, .ref r9, .ref r10, .ref r11, .ref r12, .int 0, .int 5, .long 0])), (h1, .inr (4, [.ref r13, .ref r14, .ref r15, .ref r16, .int 0, .int (-1)]))] sz) [(h0, .inr (11, [.ref r0, .ref r1, .ref r2, .ref h1, .ref r3, .ref r4, .ref r5, .ref r6, .ref r7, .ref r8, .ref r9, .ref r10, .ref r11, .ref r12, .int 0, .int 5, .long 0]))]) (va_A [(h0, .inr (11, [.ref r0, .ref r1, .ref r2, .ref h1, .ref r3, .ref r4, .ref r5, .ref r6, .ref r7, .ref r8, .ref r9, .ref r10, .ref r11, .ref r12, .int 0, .int 5, .long 0])), (h1, .inr (4, [.ref r13, .ref r14, .ref r15, .ref r16, .int 0, .int (-1)]))] sz)) 0 0 (va_A [(h0, .inr (11, [.ref r0, .ref r1, .ref r2, .ref h1, .ref r3, .ref r4, .ref r5, .ref r6, .ref r7, .ref r8, .ref r9, .ref r10, .ref r11, .ref r12, .int 0, .int 5, .long 0])), (h1, .inr (4, [.ref r13, .ref r14, .ref r15, .ref r16, .int 0, .int (-1)]))] sz) := by
  refine Met.ofW (cc := cX11_law) (maxL := 2) (ret := (some .boolean)) (by decide) rfl ?_
  intro p e s m args below meth c s₁ B hml hv
  obtain ⟨rfl, hsz, hP, hK, hD0⟩ := hv
  have hx := B.exec
  have hb := B.bytes
  have hr := B.returns
  have hts := atoms_spec (ws := q_X11_law) B.pre
  have hown : s.vm.findClass RX11 = some m.cls := findClass_of_methodNamed B.named
  have hlocks := B.notSynchronized
  subst hsz
  have hD := hD0.self (sz := s.heap.size)
  generalize hAe : va_A [(h0, .inr (11, [.ref r0, .ref r1, .ref r2, .ref h1, .ref r3, .ref r4, .ref r5, .ref r6, .ref r7, .ref r8, .ref r9, .ref r10, .ref r11, .ref r12, .int 0, .int 5, .long 0])), (h1, .inr (4, [.ref r13, .ref r14, .ref r15, .ref r16, .int 0, .int (-1)]))] s.heap.size = A at hD ⊢
  have hA : ∀ q : Nat, s.heap.size ≤ q → A q := fun q h => by rw [← hAe]; exact Or.inr h
  have hS : va_S A s.heap s.heap [] := va_S.rf
  have hl := lv_entry ([.ref h0, .int v0]) (n := 2) (Nat.le_of_ble_eq_true rfl)
  rw [lg_entry_eq]
  generalize (lg_sl ([.ref h0, .int v0]) ++ List.replicate (2 - (lg_sl ([.ref h0, .int v0])).length) Slot.unset).toArray = ls at hl ⊢
  have hl : lv_has ls 2 [(0, .ref h0), (1, .int v0)] := hl
  refine lv_aload_n hx hb dX11_law_0 rfl (lv_at hl 0 rfl) ?_
  refine va_get (D := (dC, dI)) (ci := 11) (v := .ref h1) (C := RX11) (T := TX11) (N := 17) hx hb hts (fun _ h => List.mem_cons_of_mem _ (List.mem_append_left _ (List.mem_append_right _ h))) hown hK hP 0 rfl rfl 3 (by decide) (hts (.fieldLink RX11 35 "LeftArguments" "laws" "LLeftArguments$Laws;") (List.mem_cons_of_mem _ (List.mem_append_left _ (List.mem_append_left _ (List.mem_of_getElem? (i := 0) rfl))))) (fun _ h9 => h9) rfl dX11_law_1 ?_
  refine lv_iload_n hx hb dX11_law_4 rfl (lv_at hl 1 rfl) ?_
  have hPc := hP.sub (ws' := [(h1, .inr (4, [.ref r13, .ref r14, .ref r15, .ref r16, .int 0, .int (-1)]))]) [1] rfl
  have hDc := hD.sub (ws' := [(h1, .inr (4, [.ref r13, .ref r14, .ref r15, .ref r16, .int 0, .int (-1)]))]) [1] (by decide) rfl
  have hKc := hK.sub (tys' := []) [] rfl
  have hFc := va_free (wc := [(h1, .inr (4, [.ref r13, .ref r14, .ref r15, .ref r16, .int 0, .int (-1)]))]) hD hS hA [1] rfl
  refine va_calli (va_runV (As := [.int v0]) (rest := []) ⟨hx, hb, hml, hown, hts⟩ (k_X4_choose l dC dI h1 r13 r14 r15 r16 v0  s.heap.size) (cwV 1 hts g_X11_law_0 rfl rfl rfl (by decide +kernel) ⟨Nat.le_of_ble_eq_true rfl, Nat.le_of_ble_eq_true rfl⟩) ⟨fun a U g mk q => by obtain ⟨q0, q1, qP, qK, qD⟩ := q; exact ⟨q0, q1, qP, va_K.moved (u := U) (U := U.calling g mk a) (Vm.Alike.refl U.vm) qK, qD⟩, va_recv hKc hPc (ci := 4) (q0 := 0) rfl rfl, fun U hU hW => ⟨rfl, by rw [hU], by rw [hU]; exact hPc, va_K.moved hW.alike hKc, hDc.weaken (fun _ _ _ _ => trivial)⟩⟩ rfl rfl hl.1 rfl (lv_room (Nat.le_of_ble_eq_true rfl)) dX11_law_5 ⟨Nat.le_of_ble_eq_true rfl, Nat.le_of_ble_eq_true rfl⟩) hS (fun q _ h => hFc q h) hFc (fun ra1 u t H1 locs ht hvm hw hB hz1 hk1 hS => ?_)
  obtain ⟨hP1, hK1, hD1⟩ := hB
  rw [ht] at hP1
  obtain ⟨hP, hD⟩ := va_join (wr := [(h0, .inr (11, [.ref r0, .ref r1, .ref r2, .ref h1, .ref r3, .ref r4, .ref r5, .ref r6, .ref r7, .ref r8, .ref r9, .ref r10, .ref r11, .ref r12, .int 0, .int 5, .long 0]))]) (w1 := []) hP hD [1] [0] rfl rfl (by decide) (by decide) hk1 hFc hP1 hD1
  generalize H1 = H at hP hS ⊢
  have hP : va_P (dC, dI) vwCl [(h0, .inr (11, [.ref r0, .ref r1, .ref r2, .ref h1, .ref r3, .ref r4, .ref r5, .ref r6, .ref r7, .ref r8, .ref r9, .ref r10, .ref r11, .ref r12, .int 0, .int 5, .long 0]))] H := hP
  have hD : va_D A [(h0, .inr (11, [.ref r0, .ref r1, .ref r2, .ref h1, .ref r3, .ref r4, .ref r5, .ref r6, .ref r7, .ref r8, .ref r9, .ref r10, .ref r11, .ref r12, .int 0, .int 5, .long 0]))] := hD
  have hw : ra1 = (if v0 < (-1) then 0 else (if v0 < 0 then 1 else 0)) := hw
  by_cases c2 : v0 < (-1)
  · skip
    rw [if_pos c2] at hw
    have hw : ra1 = 0 := hw
    obtain rfl : ra1 = (0 : Int32) := hw
    have hP9 := hP.sub (ws' := [(h0, .inr (11, [.ref r0, .ref r1, .ref r2, .ref h1, .ref r3, .ref r4, .ref r5, .ref r6, .ref r7, .ref r8, .ref r9, .ref r10, .ref r11, .ref r12, .int 0, .int 5, .long 0]))]) [0] rfl
    have hD9 := hD.sub (ws' := [(h0, .inr (11, [.ref r0, .ref r1, .ref r2, .ref h1, .ref r3, .ref r4, .ref r5, .ref r6, .ref r7, .ref r8, .ref r9, .ref r10, .ref r11, .ref r12, .int 0, .int 5, .long 0]))]) [0] (by decide) rfl
    have hK9 := hK.sub (tys' := []) [] rfl
    exact W.zret (v := 0) hx hb hr rfl (fun t ht hW => ⟨⟨0, (), rfl, by rw [if_pos c2], by rw [ht]; exact hP9, va_K.moved hW.alike hK9, hD9⟩, hS.F ht⟩) hS.2.2 dX11_law_8
  · skip
    rw [if_neg c2] at hw
    have hw : ra1 = (if v0 < 0 then 1 else 0) := hw
    by_cases c3 : v0 < 0
    · skip
      rw [if_pos c3] at hw
      have hw : ra1 = 1 := hw
      obtain rfl : ra1 = (1 : Int32) := hw
      have hP9 := hP.sub (ws' := [(h0, .inr (11, [.ref r0, .ref r1, .ref r2, .ref h1, .ref r3, .ref r4, .ref r5, .ref r6, .ref r7, .ref r8, .ref r9, .ref r10, .ref r11, .ref r12, .int 0, .int 5, .long 0]))]) [0] rfl
      have hD9 := hD.sub (ws' := [(h0, .inr (11, [.ref r0, .ref r1, .ref r2, .ref h1, .ref r3, .ref r4, .ref r5, .ref r6, .ref r7, .ref r8, .ref r9, .ref r10, .ref r11, .ref r12, .int 0, .int 5, .long 0]))]) [0] (by decide) rfl
      have hK9 := hK.sub (tys' := []) [] rfl
      exact W.zret (v := 1) hx hb hr rfl (fun t ht hW => ⟨⟨1, (), rfl, by rw [if_neg c2, if_pos c3], by rw [ht]; exact hP9, va_K.moved hW.alike hK9, hD9⟩, hS.F ht⟩) hS.2.2 dX11_law_8
    · skip
      rw [if_neg c3] at hw
      have hw : ra1 = 0 := hw
      obtain rfl : ra1 = (0 : Int32) := hw
      have hP9 := hP.sub (ws' := [(h0, .inr (11, [.ref r0, .ref r1, .ref r2, .ref h1, .ref r3, .ref r4, .ref r5, .ref r6, .ref r7, .ref r8, .ref r9, .ref r10, .ref r11, .ref r12, .int 0, .int 5, .long 0]))]) [0] rfl
      have hD9 := hD.sub (ws' := [(h0, .inr (11, [.ref r0, .ref r1, .ref r2, .ref h1, .ref r3, .ref r4, .ref r5, .ref r6, .ref r7, .ref r8, .ref r9, .ref r10, .ref r11, .ref r12, .int 0, .int 5, .long 0]))]) [0] (by decide) rfl
      have hK9 := hK.sub (tys' := []) [] rfl
      exact W.zret (v := 0) hx hb hr rfl (fun t ht hW => ⟨⟨0, (), rfl, by rw [if_neg c2, if_neg c3], by rw [ht]; exact hP9, va_K.moved hW.alike hK9, hD9⟩, hS.F ht⟩) hS.2.2 dX11_law_8
def q_X11_refuse : List Cond := .code yX11_refuse cX11_refuse 2 (some .int) :: (([.fieldLink RX11 96 "LeftArguments" "refused" "[I"] : List Cond) ++ wsX110)
set_option maxHeartbeats 4000000 in
set_option maxRecDepth 100000 in
theorem k_X11_refuse (l : Launch) (dC : Nat → ClassId) (dI : Nat → Nat → Nat) (g0 : ClassId) (h0 h1 : Nat) (r0 r1 r2 r3 r4 r5 r6 r7 r8 r9 r10 r11 r12 : Nat) (sz : Nat) : Met l yX11_refuse q_X11_refuse ({ frames := 0, cells := 0, slots := 0, locals := 0 }) (va_Pc [.ref h0, .int 0] (fun U => U.heap.size = sz ∧ va_P (dC, dI) vwCl [(h0, .inr (11, [.ref r0, .ref r1, .ref r2, .ref r3, .ref r4, .ref r5, .ref r6, .ref r7, .ref r8, .ref r9, .ref r10, .ref r11, .ref r12, .ref h1, .int 0, .int 5, .long 0])), (h1, .inl (g0, 5, .inl (fun _ => 0)))] U.heap ∧ va_K (dC, dI) vwCl [(g0, .int)] U ∧ va_D (fun _ => True) [(h0, .inr (11, [.ref r0, .ref r1, .ref r2, .ref r3, .ref r4, .ref r5, .ref r6, .ref r7, .ref r8, .ref r9, .ref r10, .ref r11, .ref r12, .ref h1, .int 0, .int 5, .long 0])), (h1, .inl (g0, 5, .inl (fun _ => 0)))])) (va_Qi (fun (r : Int32) (_ : Unit) => r = (-1)) (fun (_ : Unit) (t : State) => va_P (dC, dI) vwCl [(h0, .inr (11, [.ref r0, .ref r1, .ref r2, .ref r3, .ref r4, .ref r5, .ref r6, .ref r7, .ref r8, .ref r9, .ref r10, .ref r11, .ref r12, .ref h1, .int 0, .int 5, .long 0])), (h1, .inl (g0, 5, .inl (upd (fun _ => 0) 0 1)))] t.heap ∧ va_K (dC, dI) vwCl [(g0, .int)] t ∧ va_D (va_A [(h0, .inr (11, [.ref r0, .ref r1, .ref r2, .ref r3, .ref r4, .ref r5, .ref r6, .ref r7, .ref r8, .ref r9, .ref r10, .ref r11, .ref r12, .ref h1, .int 0, .int 5, .long 0])), (h1, .inl (g0, 5, .inl (fun _ => 0)))] sz) [(h0, .inr (11, [.ref r0, .ref r1, .ref r2, .ref r3, .ref r4, .ref r5, .ref r6, .ref r7, .ref r8, .ref r9, .ref r10, .ref r11, .ref r12, .ref h1, .int 0, .int 5, .long 0])), (h1, .inl (g0, 5, .inl (upd (fun _ => 0) 0 1)))]) (va_A [(h0, .inr (11, [.ref r0, .ref r1, .ref r2, .ref r3, .ref r4, .ref r5, .ref r6, .ref r7, .ref r8, .ref r9, .ref r10, .ref r11, .ref r12, .ref h1, .int 0, .int 5, .long 0])), (h1, .inl (g0, 5, .inl (fun _ => 0)))] sz)) 0 0 (va_A [(h0, .inr (11, [.ref r0, .ref r1, .ref r2, .ref r3, .ref r4, .ref r5, .ref r6, .ref r7, .ref r8, .ref r9, .ref r10, .ref r11, .ref r12, .ref h1, .int 0, .int 5, .long 0])), (h1, .inl (g0, 5, .inl (fun _ => 0)))] sz) := by
  refine Met.ofW (cc := cX11_refuse) (maxL := 2) (ret := (some .int)) (by decide) rfl ?_
  intro p e s m args below meth c s₁ B hml hv
  obtain ⟨rfl, hsz, hP, hK, hD0⟩ := hv
  have hx := B.exec
  have hb := B.bytes
  have hr := B.returns
  have hts := atoms_spec (ws := q_X11_refuse) B.pre
  have hown : s.vm.findClass RX11 = some m.cls := findClass_of_methodNamed B.named
  have hlocks := B.notSynchronized
  subst hsz
  have hD := hD0.self (sz := s.heap.size)
  generalize hAe : va_A [(h0, .inr (11, [.ref r0, .ref r1, .ref r2, .ref r3, .ref r4, .ref r5, .ref r6, .ref r7, .ref r8, .ref r9, .ref r10, .ref r11, .ref r12, .ref h1, .int 0, .int 5, .long 0])), (h1, .inl (g0, 5, .inl (fun _ => 0)))] s.heap.size = A at hD ⊢
  have hA : ∀ q : Nat, s.heap.size ≤ q → A q := fun q h => by rw [← hAe]; exact Or.inr h
  have hS : va_S A s.heap s.heap [] := va_S.rf
  have hl := lv_entry ([.ref h0, .int 0]) (n := 2) (Nat.le_of_ble_eq_true rfl)
  rw [lg_entry_eq]
  generalize (lg_sl ([.ref h0, .int 0]) ++ List.replicate (2 - (lg_sl ([.ref h0, .int 0])).length) Slot.unset).toArray = ls at hl ⊢
  have hl : lv_has ls 2 [(0, .ref h0), (1, .int 0)] := hl
  refine lv_iload_n hx hb dX11_refuse_0 rfl (lv_at hl 1 rfl) ?_
  refine lv_if_lt (tgt := 19) hx hb dX11_refuse_1 (by decide) (fun c => absurd c (by decide)) (fun _ => ?_)
  refine lv_iload_n hx hb dX11_refuse_4 rfl (lv_at hl 1 rfl) ?_
  refine lv_iconst (v := 5) hx hb dX11_refuse_5 (by decide) ?_
  refine lv_icmp_ge (tgt := 19) hx hb dX11_refuse_6 (by decide) (fun c => absurd c (by decide)) (fun _ => ?_)
  refine lv_aload_n hx hb dX11_refuse_9 rfl (lv_at hl 0 rfl) ?_
  refine va_get (D := (dC, dI)) (ci := 11) (v := .ref h1) (C := RX11) (T := TX11) (N := 17) hx hb hts (fun _ h => List.mem_cons_of_mem _ (List.mem_append_right _ h)) hown hK hP 0 rfl rfl 13 (by decide) (hts (.fieldLink RX11 96 "LeftArguments" "refused" "[I") (List.mem_cons_of_mem _ (List.mem_append_left _ (List.mem_of_getElem? (i := 0) rfl)))) (fun _ h9 => h9) rfl dX11_refuse_10 ?_
  refine lv_iload_n hx hb dX11_refuse_13 rfl (lv_at hl 1 rfl) ?_
  refine lv_dup2_11 hx hb dX11_refuse_14 rfl rfl ?_
  refine va_iald hx hb hK hP 1 0 rfl rfl (pv_c (x := 0) (n := 5) (by decide)) dX11_refuse_15 ?_
  refine lv_topi (fun tv1 etv1 => ?_)
  obtain rfl : tv1 = (0 : Int32) := etv1.trans (by first | rfl | decide)
  refine lv_iconst (v := 1) hx hb dX11_refuse_16 (by decide) ?_
  refine lv_iadd hx hb dX11_refuse_17 ?_
  refine lv_topi (fun tv2 etv2 => ?_)
  obtain rfl : tv2 = (1 : Int32) := etv2.trans (by first | rfl | decide)
  refine va_iast hx hb hK hP hD hS 1 0 rfl rfl (pv_c (x := 0) (n := 5) (by decide)) dX11_refuse_18 (fun H locs hP hD hS => ?_)
  have hP : va_P (dC, dI) vwCl [(h0, .inr (11, [.ref r0, .ref r1, .ref r2, .ref r3, .ref r4, .ref r5, .ref r6, .ref r7, .ref r8, .ref r9, .ref r10, .ref r11, .ref r12, .ref h1, .int 0, .int 5, .long 0])), (h1, .inl (g0, 5, .inl (upd (fun _ => 0) 0 1)))] H := hP
  have hD : va_D A [(h0, .inr (11, [.ref r0, .ref r1, .ref r2, .ref r3, .ref r4, .ref r5, .ref r6, .ref r7, .ref r8, .ref r9, .ref r10, .ref r11, .ref r12, .ref h1, .int 0, .int 5, .long 0])), (h1, .inl (g0, 5, .inl (upd (fun _ => 0) 0 1)))] := hD
  refine lv_iconst (v := (-1)) hx hb dX11_refuse_19 (by decide) ?_
  have hP9 := hP.sub (ws' := [(h0, .inr (11, [.ref r0, .ref r1, .ref r2, .ref r3, .ref r4, .ref r5, .ref r6, .ref r7, .ref r8, .ref r9, .ref r10, .ref r11, .ref r12, .ref h1, .int 0, .int 5, .long 0])), (h1, .inl (g0, 5, .inl (upd (fun _ => 0) 0 1)))]) [0, 1] rfl
  have hD9 := hD.sub (ws' := [(h0, .inr (11, [.ref r0, .ref r1, .ref r2, .ref r3, .ref r4, .ref r5, .ref r6, .ref r7, .ref r8, .ref r9, .ref r10, .ref r11, .ref r12, .ref h1, .int 0, .int 5, .long 0])), (h1, .inl (g0, 5, .inl (upd (fun _ => 0) 0 1)))]) [0, 1] (by decide) rfl
  have hK9 := hK.sub (tys' := [(g0, .int)]) [0] rfl
  exact W.iret (v := (-1)) hx hb hr (fun t ht hW => ⟨⟨(-1), (), rfl, rfl, by rw [ht]; exact hP9, va_K.moved hW.alike hK9, hD9⟩, hS.F ht⟩) hS.2.2 dX11_refuse_20
def q_X11_days : List Cond := .code yX11_days cX11_days 3 (some .int) :: (([.fieldLink RX11 42 "LeftArguments" "office" "LLeftArguments$Office;", .code yX5_stands cX5_stands 1 (some .boolean), .fieldLink RX5 24 "LeftArguments$Office" "stands" "Z", .initialized RX5, .instanceMethod yX5_stands, .selects RX5 yX5_stands yX5_stands, .methodLink RX11 159 yX5_stands, .code yX11_refuse cX11_refuse 2 (some .int), .fieldLink RX11 96 "LeftArguments" "refused" "[I", .initialized RX11, .instanceMethod yX11_refuse, .selects RX11 yX11_refuse yX11_refuse, .methodLink RX11 229 yX11_refuse] : List Cond) ++ wsX110 ++ wsX50)
set_option maxRecDepth 20000 in
theorem g_X11_days_0 : GoodIn q_X11_days (wsV RX11 159 RX5 yX5_stands q_X5_stands) := goodIn_app (goodIn_r _ [7, 5, 6, 4] (by decide +kernel) (by decide +kernel)) (goodIn_ca (goodIn_r (.code yX5_stands cX5_stands 1 (some .boolean) :: [.fieldLink RX5 24 "LeftArguments$Office" "stands" "Z"]) [2, 3] (by decide +kernel) (by decide +kernel)) (goodIn_sub (fun _ h => List.mem_cons_of_mem _ (List.mem_append_right _ h)) gwX5))
set_option maxRecDepth 20000 in
theorem g_X11_days_1 : GoodIn q_X11_days (wsV RX11 229 RX11 yX11_refuse q_X11_refuse) := goodIn_app (goodIn_r _ [13, 11, 12, 10] (by decide +kernel) (by decide +kernel)) (goodIn_ca (goodIn_r (.code yX11_refuse cX11_refuse 2 (some .int) :: [.fieldLink RX11 96 "LeftArguments" "refused" "[I"]) [8, 9] (by decide +kernel) (by decide +kernel)) (goodIn_sub (fun _ h => List.mem_cons_of_mem _ (List.mem_append_left _ (List.mem_append_right _ h))) gwX11))
set_option maxHeartbeats 4000000 in
set_option maxRecDepth 100000 in
theorem k_X11_days (l : Launch) (dC : Nat → ClassId) (dI : Nat → Nat → Nat) (g0 : ClassId) (h0 h1 h2 : Nat) (r0 r1 r2 r3 r4 r5 r6 r7 r8 r9 r10 r11 r12 r13 : Nat) (v0 : Int32) (sz : Nat) : Met l yX11_days q_X11_days ({ frames := 1, cells := 0, slots := 0, locals := 21 }) (va_Pc [.ref h0, .int v0] (fun U => U.heap.size = sz ∧ va_P (dC, dI) vwCl [(h0, .inr (11, [.ref r0, .ref r1, .ref r2, .ref r3, .ref h1, .ref r4, .ref r5, .ref r6, .ref r7, .ref r8, .ref r9, .ref r10, .ref r11, .ref h2, .int 0, .int 5, .long 0])), (h1, .inr (5, [.ref r12, .ref r13, .int 0, .int 0])), (h2, .inl (g0, 5, .inl (fun _ => 0)))] U.heap ∧ va_K (dC, dI) vwCl [(g0, .int)] U ∧ va_D (fun _ => True) [(h0, .inr (11, [.ref r0, .ref r1, .ref r2, .ref r3, .ref h1, .ref r4, .ref r5, .ref r6, .ref r7, .ref r8, .ref r9, .ref r10, .ref r11, .ref h2, .int 0, .int 5, .long 0])), (h1, .inr (5, [.ref r12, .ref r13, .int 0, .int 0])), (h2, .inl (g0, 5, .inl (fun _ => 0)))])) (va_Qi (fun (r : Int32) (_ : Unit) => r = (-1)) (fun (_ : Unit) (t : State) => va_P (dC, dI) vwCl [(h1, .inr (5, [.ref r12, .ref r13, .int 0, .int 0])), (h0, .inr (11, [.ref r0, .ref r1, .ref r2, .ref r3, .ref h1, .ref r4, .ref r5, .ref r6, .ref r7, .ref r8, .ref r9, .ref r10, .ref r11, .ref h2, .int 0, .int 5, .long 0])), (h2, .inl (g0, 5, .inl (upd (fun _ => 0) 0 1)))] t.heap ∧ va_K (dC, dI) vwCl [(g0, .int)] t ∧ va_D (va_A [(h0, .inr (11, [.ref r0, .ref r1, .ref r2, .ref r3, .ref h1, .ref r4, .ref r5, .ref r6, .ref r7, .ref r8, .ref r9, .ref r10, .ref r11, .ref h2, .int 0, .int 5, .long 0])), (h1, .inr (5, [.ref r12, .ref r13, .int 0, .int 0])), (h2, .inl (g0, 5, .inl (fun _ => 0)))] sz) [(h1, .inr (5, [.ref r12, .ref r13, .int 0, .int 0])), (h0, .inr (11, [.ref r0, .ref r1, .ref r2, .ref r3, .ref h1, .ref r4, .ref r5, .ref r6, .ref r7, .ref r8, .ref r9, .ref r10, .ref r11, .ref h2, .int 0, .int 5, .long 0])), (h2, .inl (g0, 5, .inl (upd (fun _ => 0) 0 1)))]) (va_A [(h0, .inr (11, [.ref r0, .ref r1, .ref r2, .ref r3, .ref h1, .ref r4, .ref r5, .ref r6, .ref r7, .ref r8, .ref r9, .ref r10, .ref r11, .ref h2, .int 0, .int 5, .long 0])), (h1, .inr (5, [.ref r12, .ref r13, .int 0, .int 0])), (h2, .inl (g0, 5, .inl (fun _ => 0)))] sz)) 0 0 (va_A [(h0, .inr (11, [.ref r0, .ref r1, .ref r2, .ref r3, .ref h1, .ref r4, .ref r5, .ref r6, .ref r7, .ref r8, .ref r9, .ref r10, .ref r11, .ref h2, .int 0, .int 5, .long 0])), (h1, .inr (5, [.ref r12, .ref r13, .int 0, .int 0])), (h2, .inl (g0, 5, .inl (fun _ => 0)))] sz) := by
  refine Met.ofW (cc := cX11_days) (maxL := 3) (ret := (some .int)) (by decide) rfl ?_
  intro p e s m args below meth c s₁ B hml hv
  obtain ⟨rfl, hsz, hP, hK, hD0⟩ := hv
  have hx := B.exec
  have hb := B.bytes
  have hr := B.returns
  have hts := atoms_spec (ws := q_X11_days) B.pre
  have hown : s.vm.findClass RX11 = some m.cls := findClass_of_methodNamed B.named
  have hlocks := B.notSynchronized
  subst hsz
  have hD := hD0.self (sz := s.heap.size)
  generalize hAe : va_A [(h0, .inr (11, [.ref r0, .ref r1, .ref r2, .ref r3, .ref h1, .ref r4, .ref r5, .ref r6, .ref r7, .ref r8, .ref r9, .ref r10, .ref r11, .ref h2, .int 0, .int 5, .long 0])), (h1, .inr (5, [.ref r12, .ref r13, .int 0, .int 0])), (h2, .inl (g0, 5, .inl (fun _ => 0)))] s.heap.size = A at hD ⊢
  have hA : ∀ q : Nat, s.heap.size ≤ q → A q := fun q h => by rw [← hAe]; exact Or.inr h
  have hS : va_S A s.heap s.heap [] := va_S.rf
  have hl := lv_entry ([.ref h0, .int v0]) (n := 3) (Nat.le_of_ble_eq_true rfl)
  rw [lg_entry_eq]
  generalize (lg_sl ([.ref h0, .int v0]) ++ List.replicate (3 - (lg_sl ([.ref h0, .int v0])).length) Slot.unset).toArray = ls at hl ⊢
  have hl : lv_has ls 3 [(0, .ref h0), (1, .int v0)] := hl
  refine lv_aload_n hx hb dX11_days_0 rfl (lv_at hl 0 rfl) ?_
  refine va_get (D := (dC, dI)) (ci := 11) (v := .ref h1) (C := RX11) (T := TX11) (N := 17) hx hb hts (fun _ h => List.mem_cons_of_mem _ (List.mem_append_left _ (List.mem_append_right _ h))) hown hK hP 0 rfl rfl 4 (by decide) (hts (.fieldLink RX11 42 "LeftArguments" "office" "LLeftArguments$Office;") (List.mem_cons_of_mem _ (List.mem_append_left _ (List.mem_append_left _ (List.mem_of_getElem? (i := 0) rfl))))) (fun _ h9 => h9) rfl dX11_days_1 ?_
  have hPc := hP.sub (ws' := [(h1, .inr (5, [.ref r12, .ref r13, .int 0, .int 0]))]) [1] rfl
  have hDc := hD.sub (ws' := [(h1, .inr (5, [.ref r12, .ref r13, .int 0, .int 0]))]) [1] (by decide) rfl
  have hKc := hK.sub (tys' := []) [] rfl
  have hFc := va_free (wc := [(h1, .inr (5, [.ref r12, .ref r13, .int 0, .int 0]))]) hD hS hA [1] rfl
  refine va_calli (va_runV (As := []) (rest := []) ⟨hx, hb, hml, hown, hts⟩ (k_X5_stands l dC dI h1 r12 r13  s.heap.size) (cwV 0 hts g_X11_days_0 rfl rfl rfl (by decide +kernel) ⟨Nat.le_of_ble_eq_true rfl, Nat.le_of_ble_eq_true rfl⟩) ⟨fun a U g mk q => by obtain ⟨q0, q1, qP, qK, qD⟩ := q; exact ⟨q0, q1, qP, va_K.moved (u := U) (U := U.calling g mk a) (Vm.Alike.refl U.vm) qK, qD⟩, va_recv hKc hPc (ci := 5) (q0 := 0) rfl rfl, fun U hU hW => ⟨rfl, by rw [hU], by rw [hU]; exact hPc, va_K.moved hW.alike hKc, hDc.weaken (fun _ _ _ _ => trivial)⟩⟩ rfl rfl hl.1 rfl (lv_room (Nat.le_of_ble_eq_true rfl)) dX11_days_4 ⟨Nat.le_of_ble_eq_true rfl, Nat.le_of_ble_eq_true rfl⟩) hS (fun q _ h => hFc q h) hFc (fun ra1 u t H1 locs ht hvm hw hB hz1 hk1 hS => ?_)
  obtain ⟨hP1, hK1, hD1⟩ := hB
  rw [ht] at hP1
  obtain ⟨hP, hD⟩ := va_join (wr := [(h0, .inr (11, [.ref r0, .ref r1, .ref r2, .ref r3, .ref h1, .ref r4, .ref r5, .ref r6, .ref r7, .ref r8, .ref r9, .ref r10, .ref r11, .ref h2, .int 0, .int 5, .long 0])), (h2, .inl (g0, 5, .inl (fun _ => 0)))]) (w1 := [(h1, .inr (5, [.ref r12, .ref r13, .int 0, .int 0]))]) hP hD [1] [0, 2] rfl rfl (by decide) (by decide) hk1 hFc hP1 hD1
  generalize H1 = H at hP hS ⊢
  have hP : va_P (dC, dI) vwCl [(h0, .inr (11, [.ref r0, .ref r1, .ref r2, .ref r3, .ref h1, .ref r4, .ref r5, .ref r6, .ref r7, .ref r8, .ref r9, .ref r10, .ref r11, .ref h2, .int 0, .int 5, .long 0])), (h2, .inl (g0, 5, .inl (fun _ => 0))), (h1, .inr (5, [.ref r12, .ref r13, .int 0, .int 0]))] H := hP
  have hD : va_D A [(h0, .inr (11, [.ref r0, .ref r1, .ref r2, .ref r3, .ref h1, .ref r4, .ref r5, .ref r6, .ref r7, .ref r8, .ref r9, .ref r10, .ref r11, .ref h2, .int 0, .int 5, .long 0])), (h2, .inl (g0, 5, .inl (fun _ => 0))), (h1, .inr (5, [.ref r12, .ref r13, .int 0, .int 0]))] := hD
  obtain rfl : ra1 = (0 : Int32) := hw
  refine lv_if_ne (tgt := 16) hx hb dX11_days_7 (by decide) (fun c => absurd (by decide) c) (fun _ => ?_)
  refine lv_aload_n hx hb dX11_days_10 rfl (lv_at hl 0 rfl) ?_
  refine lv_iconst (v := 0) hx hb dX11_days_11 (by decide) ?_
  have hPc := hP.sub (ws' := [(h0, .inr (11, [.ref r0, .ref r1, .ref r2, .ref r3, .ref h1, .ref r4, .ref r5, .ref r6, .ref r7, .ref r8, .ref r9, .ref r10, .ref r11, .ref h2, .int 0, .int 5, .long 0])), (h2, .inl (g0, 5, .inl (fun _ => 0)))]) [0, 1] rfl
  have hDc := hD.sub (ws' := [(h0, .inr (11, [.ref r0, .ref r1, .ref r2, .ref r3, .ref h1, .ref r4, .ref r5, .ref r6, .ref r7, .ref r8, .ref r9, .ref r10, .ref r11, .ref h2, .int 0, .int 5, .long 0])), (h2, .inl (g0, 5, .inl (fun _ => 0)))]) [0, 1] (by decide) rfl
  have hKc := hK.sub (tys' := [(g0, .int)]) [0] rfl
  have hFc := va_free (wc := [(h0, .inr (11, [.ref r0, .ref r1, .ref r2, .ref r3, .ref h1, .ref r4, .ref r5, .ref r6, .ref r7, .ref r8, .ref r9, .ref r10, .ref r11, .ref h2, .int 0, .int 5, .long 0])), (h2, .inl (g0, 5, .inl (fun _ => 0)))]) hD hS hA [0, 1] rfl
  refine va_calli (va_runV (As := [.int 0]) (rest := []) ⟨hx, hb, hml, hown, hts⟩ (k_X11_refuse l dC dI g0 h0 h2 r0 r1 r2 r3 h1 r4 r5 r6 r7 r8 r9 r10 r11  H.size) (cwV 1 hts g_X11_days_1 rfl rfl rfl (by decide +kernel) ⟨Nat.le_of_ble_eq_true rfl, Nat.le_of_ble_eq_true rfl⟩) ⟨fun a U g mk q => by obtain ⟨q0, q1, qP, qK, qD⟩ := q; exact ⟨q0, q1, qP, va_K.moved (u := U) (U := U.calling g mk a) (Vm.Alike.refl U.vm) qK, qD⟩, va_recv hKc hPc (ci := 11) (q0 := 0) rfl rfl, fun U hU hW => ⟨rfl, by rw [hU], by rw [hU]; exact hPc, va_K.moved hW.alike hKc, hDc.weaken (fun _ _ _ _ => trivial)⟩⟩ rfl rfl hl.1 rfl (lv_room (Nat.le_of_ble_eq_true rfl)) dX11_days_12 ⟨Nat.le_of_ble_eq_true rfl, Nat.le_of_ble_eq_true rfl⟩) hS (fun q _ h => hFc q h) hFc (fun ra2 u t H1 locs ht hvm hw hB hz1 hk1 hS => ?_)
  obtain ⟨hP1, hK1, hD1⟩ := hB
  rw [ht] at hP1
  obtain ⟨hP, hD⟩ := va_join (wr := [(h1, .inr (5, [.ref r12, .ref r13, .int 0, .int 0]))]) (w1 := [(h0, .inr (11, [.ref r0, .ref r1, .ref r2, .ref r3, .ref h1, .ref r4, .ref r5, .ref r6, .ref r7, .ref r8, .ref r9, .ref r10, .ref r11, .ref h2, .int 0, .int 5, .long 0])), (h2, .inl (g0, 5, .inl (upd (fun _ => 0) 0 1)))]) hP hD [0, 1] [2] rfl rfl (by decide) (by decide) hk1 hFc hP1 hD1
  generalize H1 = H at hP hS ⊢
  have hP : va_P (dC, dI) vwCl [(h1, .inr (5, [.ref r12, .ref r13, .int 0, .int 0])), (h0, .inr (11, [.ref r0, .ref r1, .ref r2, .ref r3, .ref h1, .ref r4, .ref r5, .ref r6, .ref r7, .ref r8, .ref r9, .ref r10, .ref r11, .ref h2, .int 0, .int 5, .long 0])), (h2, .inl (g0, 5, .inl (upd (fun _ => 0) 0 1)))] H := hP
  have hD : va_D A [(h1, .inr (5, [.ref r12, .ref r13, .int 0, .int 0])), (h0, .inr (11, [.ref r0, .ref r1, .ref r2, .ref r3, .ref h1, .ref r4, .ref r5, .ref r6, .ref r7, .ref r8, .ref r9, .ref r10, .ref r11, .ref h2, .int 0, .int 5, .long 0])), (h2, .inl (g0, 5, .inl (upd (fun _ => 0) 0 1)))] := hD
  obtain rfl : ra2 = ((-1) : Int32) := hw
  have hP9 := hP.sub (ws' := [(h1, .inr (5, [.ref r12, .ref r13, .int 0, .int 0])), (h0, .inr (11, [.ref r0, .ref r1, .ref r2, .ref r3, .ref h1, .ref r4, .ref r5, .ref r6, .ref r7, .ref r8, .ref r9, .ref r10, .ref r11, .ref h2, .int 0, .int 5, .long 0])), (h2, .inl (g0, 5, .inl (upd (fun _ => 0) 0 1)))]) [0, 1, 2] rfl
  have hD9 := hD.sub (ws' := [(h1, .inr (5, [.ref r12, .ref r13, .int 0, .int 0])), (h0, .inr (11, [.ref r0, .ref r1, .ref r2, .ref r3, .ref h1, .ref r4, .ref r5, .ref r6, .ref r7, .ref r8, .ref r9, .ref r10, .ref r11, .ref h2, .int 0, .int 5, .long 0])), (h2, .inl (g0, 5, .inl (upd (fun _ => 0) 0 1)))]) [0, 1, 2] (by decide) rfl
  have hK9 := hK.sub (tys' := [(g0, .int)]) [0] rfl
  exact W.iret (v := (-1)) hx hb hr (fun t ht hW => ⟨⟨(-1), (), rfl, rfl, by rw [ht]; exact hP9, va_K.moved hW.alike hK9, hD9⟩, hS.F ht⟩) hS.2.2 dX11_days_15
def q_X11_leave : List Cond := .code yX11_leave cX11_leave 6 (some .int) :: (([.fieldLink RX11 42 "LeftArguments" "office" "LLeftArguments$Office;", .code yX5_stands cX5_stands 1 (some .boolean), .fieldLink RX5 24 "LeftArguments$Office" "stands" "Z", .initialized RX5, .instanceMethod yX5_stands, .selects RX5 yX5_stands yX5_stands, .methodLink RX11 159 yX5_stands, .code yX11_refuse cX11_refuse 2 (some .int), .fieldLink RX11 96 "LeftArguments" "refused" "[I", .initialized RX11, .instanceMethod yX11_refuse, .selects RX11 yX11_refuse yX11_refuse, .methodLink RX11 229 yX11_refuse] : List Cond) ++ wsX110 ++ wsX50)
set_option maxRecDepth 20000 in
theorem g_X11_leave_0 : GoodIn q_X11_leave (wsV RX11 159 RX5 yX5_stands q_X5_stands) := goodIn_app (goodIn_r _ [7, 5, 6, 4] (by decide +kernel) (by decide +kernel)) (goodIn_ca (goodIn_r (.code yX5_stands cX5_stands 1 (some .boolean) :: [.fieldLink RX5 24 "LeftArguments$Office" "stands" "Z"]) [2, 3] (by decide +kernel) (by decide +kernel)) (goodIn_sub (fun _ h => List.mem_cons_of_mem _ (List.mem_append_right _ h)) gwX5))
set_option maxRecDepth 20000 in
theorem g_X11_leave_1 : GoodIn q_X11_leave (wsV RX11 229 RX11 yX11_refuse q_X11_refuse) := goodIn_app (goodIn_r _ [13, 11, 12, 10] (by decide +kernel) (by decide +kernel)) (goodIn_ca (goodIn_r (.code yX11_refuse cX11_refuse 2 (some .int) :: [.fieldLink RX11 96 "LeftArguments" "refused" "[I"]) [8, 9] (by decide +kernel) (by decide +kernel)) (goodIn_sub (fun _ h => List.mem_cons_of_mem _ (List.mem_append_left _ (List.mem_append_right _ h))) gwX11))
set_option maxHeartbeats 4000000 in
set_option maxRecDepth 100000 in
theorem k_X11_leave (l : Launch) (dC : Nat → ClassId) (dI : Nat → Nat → Nat) (g0 : ClassId) (h0 h1 h2 : Nat) (r0 r1 r2 r3 r4 r5 r6 r7 r8 r9 r10 r11 r12 r13 : Nat) (v0 v1 v2 v3 : Int32) (sz : Nat) : Met l yX11_leave q_X11_leave ({ frames := 1, cells := 0, slots := 0, locals := 21 }) (va_Pc [.ref h0, .int v0, .int v1, .int v2, .int v3] (fun U => U.heap.size = sz ∧ va_P (dC, dI) vwCl [(h0, .inr (11, [.ref r0, .ref r1, .ref r2, .ref r3, .ref h1, .ref r4, .ref r5, .ref r6, .ref r7, .ref r8, .ref r9, .ref r10, .ref r11, .ref h2, .int 0, .int 5, .long 0])), (h1, .inr (5, [.ref r12, .ref r13, .int 0, .int 0])), (h2, .inl (g0, 5, .inl (fun _ => 0)))] U.heap ∧ va_K (dC, dI) vwCl [(g0, .int)] U ∧ va_D (fun _ => True) [(h0, .inr (11, [.ref r0, .ref r1, .ref r2, .ref r3, .ref h1, .ref r4, .ref r5, .ref r6, .ref r7, .ref r8, .ref r9, .ref r10, .ref r11, .ref h2, .int 0, .int 5, .long 0])), (h1, .inr (5, [.ref r12, .ref r13, .int 0, .int 0])), (h2, .inl (g0, 5, .inl (fun _ => 0)))])) (va_Qi (fun (r : Int32) (_ : Unit) => r = (-1)) (fun (_ : Unit) (t : State) => va_P (dC, dI) vwCl [(h1, .inr (5, [.ref r12, .ref r13, .int 0, .int 0])), (h0, .inr (11, [.ref r0, .ref r1, .ref r2, .ref r3, .ref h1, .ref r4, .ref r5, .ref r6, .ref r7, .ref r8, .ref r9, .ref r10, .ref r11, .ref h2, .int 0, .int 5, .long 0])), (h2, .inl (g0, 5, .inl (upd (fun _ => 0) 0 1)))] t.heap ∧ va_K (dC, dI) vwCl [(g0, .int)] t ∧ va_D (va_A [(h0, .inr (11, [.ref r0, .ref r1, .ref r2, .ref r3, .ref h1, .ref r4, .ref r5, .ref r6, .ref r7, .ref r8, .ref r9, .ref r10, .ref r11, .ref h2, .int 0, .int 5, .long 0])), (h1, .inr (5, [.ref r12, .ref r13, .int 0, .int 0])), (h2, .inl (g0, 5, .inl (fun _ => 0)))] sz) [(h1, .inr (5, [.ref r12, .ref r13, .int 0, .int 0])), (h0, .inr (11, [.ref r0, .ref r1, .ref r2, .ref r3, .ref h1, .ref r4, .ref r5, .ref r6, .ref r7, .ref r8, .ref r9, .ref r10, .ref r11, .ref h2, .int 0, .int 5, .long 0])), (h2, .inl (g0, 5, .inl (upd (fun _ => 0) 0 1)))]) (va_A [(h0, .inr (11, [.ref r0, .ref r1, .ref r2, .ref r3, .ref h1, .ref r4, .ref r5, .ref r6, .ref r7, .ref r8, .ref r9, .ref r10, .ref r11, .ref h2, .int 0, .int 5, .long 0])), (h1, .inr (5, [.ref r12, .ref r13, .int 0, .int 0])), (h2, .inl (g0, 5, .inl (fun _ => 0)))] sz)) 0 0 (va_A [(h0, .inr (11, [.ref r0, .ref r1, .ref r2, .ref r3, .ref h1, .ref r4, .ref r5, .ref r6, .ref r7, .ref r8, .ref r9, .ref r10, .ref r11, .ref h2, .int 0, .int 5, .long 0])), (h1, .inr (5, [.ref r12, .ref r13, .int 0, .int 0])), (h2, .inl (g0, 5, .inl (fun _ => 0)))] sz) := by
  refine Met.ofW (cc := cX11_leave) (maxL := 6) (ret := (some .int)) (by decide) rfl ?_
  intro p e s m args below meth c s₁ B hml hv
  obtain ⟨rfl, hsz, hP, hK, hD0⟩ := hv
  have hx := B.exec
  have hb := B.bytes
  have hr := B.returns
  have hts := atoms_spec (ws := q_X11_leave) B.pre
  have hown : s.vm.findClass RX11 = some m.cls := findClass_of_methodNamed B.named
  have hlocks := B.notSynchronized
  subst hsz
  have hD := hD0.self (sz := s.heap.size)
  generalize hAe : va_A [(h0, .inr (11, [.ref r0, .ref r1, .ref r2, .ref r3, .ref h1, .ref r4, .ref r5, .ref r6, .ref r7, .ref r8, .ref r9, .ref r10, .ref r11, .ref h2, .int 0, .int 5, .long 0])), (h1, .inr (5, [.ref r12, .ref r13, .int 0, .int 0])), (h2, .inl (g0, 5, .inl (fun _ => 0)))] s.heap.size = A at hD ⊢
  have hA : ∀ q : Nat, s.heap.size ≤ q → A q := fun q h => by rw [← hAe]; exact Or.inr h
  have hS : va_S A s.heap s.heap [] := va_S.rf
  have hl := lv_entry ([.ref h0, .int v0, .int v1, .int v2, .int v3]) (n := 6) (Nat.le_of_ble_eq_true rfl)
  rw [lg_entry_eq]
  generalize (lg_sl ([.ref h0, .int v0, .int v1, .int v2, .int v3]) ++ List.replicate (6 - (lg_sl ([.ref h0, .int v0, .int v1, .int v2, .int v3])).length) Slot.unset).toArray = ls at hl ⊢
  have hl : lv_has ls 6 [(0, .ref h0), (1, .int v0), (2, .int v1), (3, .int v2), (4, .int v3)] := hl
  refine lv_aload_n hx hb dX11_leave_0 rfl (lv_at hl 0 rfl) ?_
  refine va_get (D := (dC, dI)) (ci := 11) (v := .ref h1) (C := RX11) (T := TX11) (N := 17) hx hb hts (fun _ h => List.mem_cons_of_mem _ (List.mem_append_left _ (List.mem_append_right _ h))) hown hK hP 0 rfl rfl 4 (by decide) (hts (.fieldLink RX11 42 "LeftArguments" "office" "LLeftArguments$Office;") (List.mem_cons_of_mem _ (List.mem_append_left _ (List.mem_append_left _ (List.mem_of_getElem? (i := 0) rfl))))) (fun _ h9 => h9) rfl dX11_leave_1 ?_
  have hPc := hP.sub (ws' := [(h1, .inr (5, [.ref r12, .ref r13, .int 0, .int 0]))]) [1] rfl
  have hDc := hD.sub (ws' := [(h1, .inr (5, [.ref r12, .ref r13, .int 0, .int 0]))]) [1] (by decide) rfl
  have hKc := hK.sub (tys' := []) [] rfl
  have hFc := va_free (wc := [(h1, .inr (5, [.ref r12, .ref r13, .int 0, .int 0]))]) hD hS hA [1] rfl
  refine va_calli (va_runV (As := []) (rest := []) ⟨hx, hb, hml, hown, hts⟩ (k_X5_stands l dC dI h1 r12 r13  s.heap.size) (cwV 0 hts g_X11_leave_0 rfl rfl rfl (by decide +kernel) ⟨Nat.le_of_ble_eq_true rfl, Nat.le_of_ble_eq_true rfl⟩) ⟨fun a U g mk q => by obtain ⟨q0, q1, qP, qK, qD⟩ := q; exact ⟨q0, q1, qP, va_K.moved (u := U) (U := U.calling g mk a) (Vm.Alike.refl U.vm) qK, qD⟩, va_recv hKc hPc (ci := 5) (q0 := 0) rfl rfl, fun U hU hW => ⟨rfl, by rw [hU], by rw [hU]; exact hPc, va_K.moved hW.alike hKc, hDc.weaken (fun _ _ _ _ => trivial)⟩⟩ rfl rfl hl.1 rfl (lv_room (Nat.le_of_ble_eq_true rfl)) dX11_leave_4 ⟨Nat.le_of_ble_eq_true rfl, Nat.le_of_ble_eq_true rfl⟩) hS (fun q _ h => hFc q h) hFc (fun ra1 u t H1 locs ht hvm hw hB hz1 hk1 hS => ?_)
  obtain ⟨hP1, hK1, hD1⟩ := hB
  rw [ht] at hP1
  obtain ⟨hP, hD⟩ := va_join (wr := [(h0, .inr (11, [.ref r0, .ref r1, .ref r2, .ref r3, .ref h1, .ref r4, .ref r5, .ref r6, .ref r7, .ref r8, .ref r9, .ref r10, .ref r11, .ref h2, .int 0, .int 5, .long 0])), (h2, .inl (g0, 5, .inl (fun _ => 0)))]) (w1 := [(h1, .inr (5, [.ref r12, .ref r13, .int 0, .int 0]))]) hP hD [1] [0, 2] rfl rfl (by decide) (by decide) hk1 hFc hP1 hD1
  generalize H1 = H at hP hS ⊢
  have hP : va_P (dC, dI) vwCl [(h0, .inr (11, [.ref r0, .ref r1, .ref r2, .ref r3, .ref h1, .ref r4, .ref r5, .ref r6, .ref r7, .ref r8, .ref r9, .ref r10, .ref r11, .ref h2, .int 0, .int 5, .long 0])), (h2, .inl (g0, 5, .inl (fun _ => 0))), (h1, .inr (5, [.ref r12, .ref r13, .int 0, .int 0]))] H := hP
  have hD : va_D A [(h0, .inr (11, [.ref r0, .ref r1, .ref r2, .ref r3, .ref h1, .ref r4, .ref r5, .ref r6, .ref r7, .ref r8, .ref r9, .ref r10, .ref r11, .ref h2, .int 0, .int 5, .long 0])), (h2, .inl (g0, 5, .inl (fun _ => 0))), (h1, .inr (5, [.ref r12, .ref r13, .int 0, .int 0]))] := hD
  obtain rfl : ra1 = (0 : Int32) := hw
  refine lv_if_ne (tgt := 16) hx hb dX11_leave_7 (by decide) (fun c => absurd (by decide) c) (fun _ => ?_)
  refine lv_aload_n hx hb dX11_leave_10 rfl (lv_at hl 0 rfl) ?_
  refine lv_iconst (v := 0) hx hb dX11_leave_11 (by decide) ?_
  have hPc := hP.sub (ws' := [(h0, .inr (11, [.ref r0, .ref r1, .ref r2, .ref r3, .ref h1, .ref r4, .ref r5, .ref r6, .ref r7, .ref r8, .ref r9, .ref r10, .ref r11, .ref h2, .int 0, .int 5, .long 0])), (h2, .inl (g0, 5, .inl (fun _ => 0)))]) [0, 1] rfl
  have hDc := hD.sub (ws' := [(h0, .inr (11, [.ref r0, .ref r1, .ref r2, .ref r3, .ref h1, .ref r4, .ref r5, .ref r6, .ref r7, .ref r8, .ref r9, .ref r10, .ref r11, .ref h2, .int 0, .int 5, .long 0])), (h2, .inl (g0, 5, .inl (fun _ => 0)))]) [0, 1] (by decide) rfl
  have hKc := hK.sub (tys' := [(g0, .int)]) [0] rfl
  have hFc := va_free (wc := [(h0, .inr (11, [.ref r0, .ref r1, .ref r2, .ref r3, .ref h1, .ref r4, .ref r5, .ref r6, .ref r7, .ref r8, .ref r9, .ref r10, .ref r11, .ref h2, .int 0, .int 5, .long 0])), (h2, .inl (g0, 5, .inl (fun _ => 0)))]) hD hS hA [0, 1] rfl
  refine va_calli (va_runV (As := [.int 0]) (rest := []) ⟨hx, hb, hml, hown, hts⟩ (k_X11_refuse l dC dI g0 h0 h2 r0 r1 r2 r3 h1 r4 r5 r6 r7 r8 r9 r10 r11  H.size) (cwV 1 hts g_X11_leave_1 rfl rfl rfl (by decide +kernel) ⟨Nat.le_of_ble_eq_true rfl, Nat.le_of_ble_eq_true rfl⟩) ⟨fun a U g mk q => by obtain ⟨q0, q1, qP, qK, qD⟩ := q; exact ⟨q0, q1, qP, va_K.moved (u := U) (U := U.calling g mk a) (Vm.Alike.refl U.vm) qK, qD⟩, va_recv hKc hPc (ci := 11) (q0 := 0) rfl rfl, fun U hU hW => ⟨rfl, by rw [hU], by rw [hU]; exact hPc, va_K.moved hW.alike hKc, hDc.weaken (fun _ _ _ _ => trivial)⟩⟩ rfl rfl hl.1 rfl (lv_room (Nat.le_of_ble_eq_true rfl)) dX11_leave_12 ⟨Nat.le_of_ble_eq_true rfl, Nat.le_of_ble_eq_true rfl⟩) hS (fun q _ h => hFc q h) hFc (fun ra2 u t H1 locs ht hvm hw hB hz1 hk1 hS => ?_)
  obtain ⟨hP1, hK1, hD1⟩ := hB
  rw [ht] at hP1
  obtain ⟨hP, hD⟩ := va_join (wr := [(h1, .inr (5, [.ref r12, .ref r13, .int 0, .int 0]))]) (w1 := [(h0, .inr (11, [.ref r0, .ref r1, .ref r2, .ref r3, .ref h1, .ref r4, .ref r5, .ref r6, .ref r7, .ref r8, .ref r9, .ref r10, .ref r11, .ref h2, .int 0, .int 5, .long 0])), (h2, .inl (g0, 5, .inl (upd (fun _ => 0) 0 1)))]) hP hD [0, 1] [2] rfl rfl (by decide) (by decide) hk1 hFc hP1 hD1
  generalize H1 = H at hP hS ⊢
  have hP : va_P (dC, dI) vwCl [(h1, .inr (5, [.ref r12, .ref r13, .int 0, .int 0])), (h0, .inr (11, [.ref r0, .ref r1, .ref r2, .ref r3, .ref h1, .ref r4, .ref r5, .ref r6, .ref r7, .ref r8, .ref r9, .ref r10, .ref r11, .ref h2, .int 0, .int 5, .long 0])), (h2, .inl (g0, 5, .inl (upd (fun _ => 0) 0 1)))] H := hP
  have hD : va_D A [(h1, .inr (5, [.ref r12, .ref r13, .int 0, .int 0])), (h0, .inr (11, [.ref r0, .ref r1, .ref r2, .ref r3, .ref h1, .ref r4, .ref r5, .ref r6, .ref r7, .ref r8, .ref r9, .ref r10, .ref r11, .ref h2, .int 0, .int 5, .long 0])), (h2, .inl (g0, 5, .inl (upd (fun _ => 0) 0 1)))] := hD
  obtain rfl : ra2 = ((-1) : Int32) := hw
  have hP9 := hP.sub (ws' := [(h1, .inr (5, [.ref r12, .ref r13, .int 0, .int 0])), (h0, .inr (11, [.ref r0, .ref r1, .ref r2, .ref r3, .ref h1, .ref r4, .ref r5, .ref r6, .ref r7, .ref r8, .ref r9, .ref r10, .ref r11, .ref h2, .int 0, .int 5, .long 0])), (h2, .inl (g0, 5, .inl (upd (fun _ => 0) 0 1)))]) [0, 1, 2] rfl
  have hD9 := hD.sub (ws' := [(h1, .inr (5, [.ref r12, .ref r13, .int 0, .int 0])), (h0, .inr (11, [.ref r0, .ref r1, .ref r2, .ref r3, .ref h1, .ref r4, .ref r5, .ref r6, .ref r7, .ref r8, .ref r9, .ref r10, .ref r11, .ref h2, .int 0, .int 5, .long 0])), (h2, .inl (g0, 5, .inl (upd (fun _ => 0) 0 1)))]) [0, 1, 2] (by decide) rfl
  have hK9 := hK.sub (tys' := [(g0, .int)]) [0] rfl
  exact W.iret (v := (-1)) hx hb hr (fun t ht hW => ⟨⟨(-1), (), rfl, rfl, by rw [ht]; exact hP9, va_K.moved hW.alike hK9, hD9⟩, hS.F ht⟩) hS.2.2 dX11_leave_15
def q_X7_has : List Cond := .code yX7_has cX7_has 2 (some .boolean) :: (([.fieldLink RX7 11 "LeftArguments$Room" "cells" "[I"] : List Cond) ++ wsX70)
set_option maxHeartbeats 4000000 in
set_option maxRecDepth 100000 in
theorem k_X7_has (l : Launch) (dC : Nat → ClassId) (dI : Nat → Nat → Nat) (g0 : ClassId) (h0 h1 : Nat) (r0 : Nat) (v0 : Int32) (sz : Nat) : Met l yX7_has q_X7_has ({ frames := 0, cells := 0, slots := 0, locals := 0 }) (va_Pc [.ref h0, .int v0] (fun U => U.heap.size = sz ∧ va_P (dC, dI) vwCl [(h0, .inr (7, [.ref h1, .ref r0, .int 0, .int 0])), (h1, .inl (g0, 58, .inl (fun _ => 0)))] U.heap ∧ va_K (dC, dI) vwCl [(g0, .int)] U ∧ va_D (fun _ => True) [(h0, .inr (7, [.ref h1, .ref r0, .int 0, .int 0])), (h1, .inl (g0, 58, .inl (fun _ => 0)))])) (va_Qi (fun (r : Int32) (_ : Unit) => r = 0) (fun (_ : Unit) (t : State) => va_P (dC, dI) vwCl [(h0, .inr (7, [.ref h1, .ref r0, .int 0, .int 0])), (h1, .inl (g0, 58, .inl (fun _ => 0)))] t.heap ∧ va_K (dC, dI) vwCl [(g0, .int)] t ∧ va_D (va_A [(h0, .inr (7, [.ref h1, .ref r0, .int 0, .int 0])), (h1, .inl (g0, 58, .inl (fun _ => 0)))] sz) [(h0, .inr (7, [.ref h1, .ref r0, .int 0, .int 0])), (h1, .inl (g0, 58, .inl (fun _ => 0)))]) (va_A [(h0, .inr (7, [.ref h1, .ref r0, .int 0, .int 0])), (h1, .inl (g0, 58, .inl (fun _ => 0)))] sz)) 0 0 (va_A [(h0, .inr (7, [.ref h1, .ref r0, .int 0, .int 0])), (h1, .inl (g0, 58, .inl (fun _ => 0)))] sz) := by
  refine Met.ofW (cc := cX7_has) (maxL := 2) (ret := (some .boolean)) (by decide) rfl ?_
  intro p e s m args below meth c s₁ B hml hv
  obtain ⟨rfl, hsz, hP, hK, hD0⟩ := hv
  have hx := B.exec
  have hb := B.bytes
  have hr := B.returns
  have hts := atoms_spec (ws := q_X7_has) B.pre
  have hown : s.vm.findClass RX7 = some m.cls := findClass_of_methodNamed B.named
  have hlocks := B.notSynchronized
  subst hsz
  have hD := hD0.self (sz := s.heap.size)
  generalize hAe : va_A [(h0, .inr (7, [.ref h1, .ref r0, .int 0, .int 0])), (h1, .inl (g0, 58, .inl (fun _ => 0)))] s.heap.size = A at hD ⊢
  have hA : ∀ q : Nat, s.heap.size ≤ q → A q := fun q h => by rw [← hAe]; exact Or.inr h
  have hS : va_S A s.heap s.heap [] := va_S.rf
  have hl := lv_entry ([.ref h0, .int v0]) (n := 2) (Nat.le_of_ble_eq_true rfl)
  rw [lg_entry_eq]
  generalize (lg_sl ([.ref h0, .int v0]) ++ List.replicate (2 - (lg_sl ([.ref h0, .int v0])).length) Slot.unset).toArray = ls at hl ⊢
  have hl : lv_has ls 2 [(0, .ref h0), (1, .int v0)] := hl
  refine lv_iload_n hx hb dX7_has_0 rfl (lv_at hl 1 rfl) ?_
  refine lv_if_lt (tgt := 23) hx hb dX7_has_1 (by decide) (fun c1 => ?_) (fun c1 => ?_)
  · skip
    refine lv_iconst (v := 0) hx hb dX7_has_23 (by decide) ?_
    have hP9 := hP.sub (ws' := [(h0, .inr (7, [.ref h1, .ref r0, .int 0, .int 0])), (h1, .inl (g0, 58, .inl (fun _ => 0)))]) [0, 1] rfl
    have hD9 := hD.sub (ws' := [(h0, .inr (7, [.ref h1, .ref r0, .int 0, .int 0])), (h1, .inl (g0, 58, .inl (fun _ => 0)))]) [0, 1] (by decide) rfl
    have hK9 := hK.sub (tys' := [(g0, .int)]) [0] rfl
    exact W.zret (v := 0) hx hb hr rfl (fun t ht hW => ⟨⟨0, (), rfl, rfl, by rw [ht]; exact hP9, va_K.moved hW.alike hK9, hD9⟩, hS.F ht⟩) hS.2.2 dX7_has_24
  · skip
    refine lv_iload_n hx hb dX7_has_4 rfl (lv_at hl 1 rfl) ?_
    refine lv_bipush (v := 8) hx hb dX7_has_5 (by decide) ?_
    refine lv_icmp_ge (tgt := 23) hx hb dX7_has_7 (by decide) (fun c2 => ?_) (fun c2 => ?_)
    · skip
      refine lv_iconst (v := 0) hx hb dX7_has_23 (by decide) ?_
      have hP9 := hP.sub (ws' := [(h0, .inr (7, [.ref h1, .ref r0, .int 0, .int 0])), (h1, .inl (g0, 58, .inl (fun _ => 0)))]) [0, 1] rfl
      have hD9 := hD.sub (ws' := [(h0, .inr (7, [.ref h1, .ref r0, .int 0, .int 0])), (h1, .inl (g0, 58, .inl (fun _ => 0)))]) [0, 1] (by decide) rfl
      have hK9 := hK.sub (tys' := [(g0, .int)]) [0] rfl
      exact W.zret (v := 0) hx hb hr rfl (fun t ht hW => ⟨⟨0, (), rfl, rfl, by rw [ht]; exact hP9, va_K.moved hW.alike hK9, hD9⟩, hS.F ht⟩) hS.2.2 dX7_has_24
    · skip
      refine lv_aload_n hx hb dX7_has_10 rfl (lv_at hl 0 rfl) ?_
      refine va_get (D := (dC, dI)) (ci := 7) (v := .ref h1) (C := RX7) (T := TX7) (N := 4) hx hb hts (fun _ h => List.mem_cons_of_mem _ (List.mem_append_right _ h)) hown hK hP 0 rfl rfl 0 (by decide) (hts (.fieldLink RX7 11 "LeftArguments$Room" "cells" "[I") (List.mem_cons_of_mem _ (List.mem_append_left _ (List.mem_of_getElem? (i := 0) rfl)))) (fun _ h9 => h9) rfl dX7_has_11 ?_
      refine lv_iload_n hx hb dX7_has_14 rfl (lv_at hl 1 rfl) ?_
      refine va_iald hx hb hK hP 1 0 rfl rfl (pv_enum (P := fun y => vp_in (y) 58) (x := v0) (N := 8) (by (have t0 : ¬ v0.toInt < (0) := fun h9 => c1 (Int32.lt_iff_toInt_lt.mpr h9); have t1 : ¬ (8) ≤ v0.toInt := fun h9 => c2 (Int32.le_iff_toInt_le.mpr h9); omega)) (by (have t0 : ¬ v0.toInt < (0) := fun h9 => c1 (Int32.lt_iff_toInt_lt.mpr h9); have t1 : ¬ (8) ≤ v0.toInt := fun h9 => c2 (Int32.le_iff_toInt_le.mpr h9); omega)) (fun j => pv_c ((by decide +kernel : ∀ j : Fin 8, decide (¬ (((nI j.val)) < 0 ∨ 58 ≤ ((nI j.val)).toNatClampNeg)) = true) j))) dX7_has_15 ?_
      refine lv_topi (fun tv3 etv3 => ?_)
      obtain rfl : tv3 = (0 : Int32) := etv3.trans (by first | rfl | decide)
      refine lv_if_le (tgt := 23) hx hb dX7_has_16 (by decide) (fun _ => ?_) (fun c => absurd (by decide) c)
      refine lv_iconst (v := 0) hx hb dX7_has_23 (by decide) ?_
      have hP9 := hP.sub (ws' := [(h0, .inr (7, [.ref h1, .ref r0, .int 0, .int 0])), (h1, .inl (g0, 58, .inl (fun _ => 0)))]) [0, 1] rfl
      have hD9 := hD.sub (ws' := [(h0, .inr (7, [.ref h1, .ref r0, .int 0, .int 0])), (h1, .inl (g0, 58, .inl (fun _ => 0)))]) [0, 1] (by decide) rfl
      have hK9 := hK.sub (tys' := [(g0, .int)]) [0] rfl
      exact W.zret (v := 0) hx hb hr rfl (fun t ht hW => ⟨⟨0, (), rfl, rfl, by rw [ht]; exact hP9, va_K.moved hW.alike hK9, hD9⟩, hS.F ht⟩) hS.2.2 dX7_has_24
def q_X11_call : List Cond := .code yX11_call cX11_call 2 (some .int) :: (([.fieldLink RX11 49 "LeftArguments" "room" "LLeftArguments$Room;", .code yX7_has cX7_has 2 (some .boolean), .fieldLink RX7 11 "LeftArguments$Room" "cells" "[I", .initialized RX7, .instanceMethod yX7_has, .selects RX7 yX7_has yX7_has, .methodLink RX11 169 yX7_has, .code yX11_refuse cX11_refuse 2 (some .int), .fieldLink RX11 96 "LeftArguments" "refused" "[I", .initialized RX11, .instanceMethod yX11_refuse, .selects RX11 yX11_refuse yX11_refuse, .methodLink RX11 229 yX11_refuse] : List Cond) ++ wsX110 ++ wsX70)
set_option maxRecDepth 20000 in
theorem g_X11_call_0 : GoodIn q_X11_call (wsV RX11 169 RX7 yX7_has q_X7_has) := goodIn_app (goodIn_r _ [7, 5, 6, 4] (by decide +kernel) (by decide +kernel)) (goodIn_ca (goodIn_r (.code yX7_has cX7_has 2 (some .boolean) :: [.fieldLink RX7 11 "LeftArguments$Room" "cells" "[I"]) [2, 3] (by decide +kernel) (by decide +kernel)) (goodIn_sub (fun _ h => List.mem_cons_of_mem _ (List.mem_append_right _ h)) gwX7))
set_option maxRecDepth 20000 in
theorem g_X11_call_1 : GoodIn q_X11_call (wsV RX11 229 RX11 yX11_refuse q_X11_refuse) := goodIn_app (goodIn_r _ [13, 11, 12, 10] (by decide +kernel) (by decide +kernel)) (goodIn_ca (goodIn_r (.code yX11_refuse cX11_refuse 2 (some .int) :: [.fieldLink RX11 96 "LeftArguments" "refused" "[I"]) [8, 9] (by decide +kernel) (by decide +kernel)) (goodIn_sub (fun _ h => List.mem_cons_of_mem _ (List.mem_append_left _ (List.mem_append_right _ h))) gwX11))
set_option maxHeartbeats 4000000 in
set_option maxRecDepth 100000 in
theorem k_X11_call (l : Launch) (dC : Nat → ClassId) (dI : Nat → Nat → Nat) (g0 g1 : ClassId) (h0 h1 h2 h3 : Nat) (r0 r1 r2 r3 r4 r5 r6 r7 r8 r9 r10 r11 r12 : Nat) (v0 : Int32) (sz : Nat) : Met l yX11_call q_X11_call ({ frames := 1, cells := 0, slots := 0, locals := 21 }) (va_Pc [.ref h0, .int v0] (fun U => U.heap.size = sz ∧ va_P (dC, dI) vwCl [(h0, .inr (11, [.ref r0, .ref r1, .ref r2, .ref r3, .ref r4, .ref h1, .ref r5, .ref r6, .ref r7, .ref r8, .ref r9, .ref r10, .ref r11, .ref h3, .int 0, .int 5, .long 0])), (h1, .inr (7, [.ref h2, .ref r12, .int 0, .int 0])), (h2, .inl (g0, 58, .inl (fun _ => 0))), (h3, .inl (g1, 5, .inl (fun _ => 0)))] U.heap ∧ va_K (dC, dI) vwCl [(g0, .int), (g1, .int)] U ∧ va_D (fun _ => True) [(h0, .inr (11, [.ref r0, .ref r1, .ref r2, .ref r3, .ref r4, .ref h1, .ref r5, .ref r6, .ref r7, .ref r8, .ref r9, .ref r10, .ref r11, .ref h3, .int 0, .int 5, .long 0])), (h1, .inr (7, [.ref h2, .ref r12, .int 0, .int 0])), (h2, .inl (g0, 58, .inl (fun _ => 0))), (h3, .inl (g1, 5, .inl (fun _ => 0)))])) (va_Qi (fun (r : Int32) (_ : Unit) => r = (-1)) (fun (_ : Unit) (t : State) => va_P (dC, dI) vwCl [(h1, .inr (7, [.ref h2, .ref r12, .int 0, .int 0])), (h2, .inl (g0, 58, .inl (fun _ => 0))), (h0, .inr (11, [.ref r0, .ref r1, .ref r2, .ref r3, .ref r4, .ref h1, .ref r5, .ref r6, .ref r7, .ref r8, .ref r9, .ref r10, .ref r11, .ref h3, .int 0, .int 5, .long 0])), (h3, .inl (g1, 5, .inl (upd (fun _ => 0) 0 1)))] t.heap ∧ va_K (dC, dI) vwCl [(g0, .int), (g1, .int)] t ∧ va_D (va_A [(h0, .inr (11, [.ref r0, .ref r1, .ref r2, .ref r3, .ref r4, .ref h1, .ref r5, .ref r6, .ref r7, .ref r8, .ref r9, .ref r10, .ref r11, .ref h3, .int 0, .int 5, .long 0])), (h1, .inr (7, [.ref h2, .ref r12, .int 0, .int 0])), (h2, .inl (g0, 58, .inl (fun _ => 0))), (h3, .inl (g1, 5, .inl (fun _ => 0)))] sz) [(h1, .inr (7, [.ref h2, .ref r12, .int 0, .int 0])), (h2, .inl (g0, 58, .inl (fun _ => 0))), (h0, .inr (11, [.ref r0, .ref r1, .ref r2, .ref r3, .ref r4, .ref h1, .ref r5, .ref r6, .ref r7, .ref r8, .ref r9, .ref r10, .ref r11, .ref h3, .int 0, .int 5, .long 0])), (h3, .inl (g1, 5, .inl (upd (fun _ => 0) 0 1)))]) (va_A [(h0, .inr (11, [.ref r0, .ref r1, .ref r2, .ref r3, .ref r4, .ref h1, .ref r5, .ref r6, .ref r7, .ref r8, .ref r9, .ref r10, .ref r11, .ref h3, .int 0, .int 5, .long 0])), (h1, .inr (7, [.ref h2, .ref r12, .int 0, .int 0])), (h2, .inl (g0, 58, .inl (fun _ => 0))), (h3, .inl (g1, 5, .inl (fun _ => 0)))] sz)) 0 0 (va_A [(h0, .inr (11, [.ref r0, .ref r1, .ref r2, .ref r3, .ref r4, .ref h1, .ref r5, .ref r6, .ref r7, .ref r8, .ref r9, .ref r10, .ref r11, .ref h3, .int 0, .int 5, .long 0])), (h1, .inr (7, [.ref h2, .ref r12, .int 0, .int 0])), (h2, .inl (g0, 58, .inl (fun _ => 0))), (h3, .inl (g1, 5, .inl (fun _ => 0)))] sz) := by
  refine Met.ofW (cc := cX11_call) (maxL := 2) (ret := (some .int)) (by decide) rfl ?_
  intro p e s m args below meth c s₁ B hml hv
  obtain ⟨rfl, hsz, hP, hK, hD0⟩ := hv
  have hx := B.exec
  have hb := B.bytes
  have hr := B.returns
  have hts := atoms_spec (ws := q_X11_call) B.pre
  have hown : s.vm.findClass RX11 = some m.cls := findClass_of_methodNamed B.named
  have hlocks := B.notSynchronized
  subst hsz
  have hD := hD0.self (sz := s.heap.size)
  generalize hAe : va_A [(h0, .inr (11, [.ref r0, .ref r1, .ref r2, .ref r3, .ref r4, .ref h1, .ref r5, .ref r6, .ref r7, .ref r8, .ref r9, .ref r10, .ref r11, .ref h3, .int 0, .int 5, .long 0])), (h1, .inr (7, [.ref h2, .ref r12, .int 0, .int 0])), (h2, .inl (g0, 58, .inl (fun _ => 0))), (h3, .inl (g1, 5, .inl (fun _ => 0)))] s.heap.size = A at hD ⊢
  have hA : ∀ q : Nat, s.heap.size ≤ q → A q := fun q h => by rw [← hAe]; exact Or.inr h
  have hS : va_S A s.heap s.heap [] := va_S.rf
  have hl := lv_entry ([.ref h0, .int v0]) (n := 2) (Nat.le_of_ble_eq_true rfl)
  rw [lg_entry_eq]
  generalize (lg_sl ([.ref h0, .int v0]) ++ List.replicate (2 - (lg_sl ([.ref h0, .int v0])).length) Slot.unset).toArray = ls at hl ⊢
  have hl : lv_has ls 2 [(0, .ref h0), (1, .int v0)] := hl
  refine lv_aload_n hx hb dX11_call_0 rfl (lv_at hl 0 rfl) ?_
  refine va_get (D := (dC, dI)) (ci := 11) (v := .ref h1) (C := RX11) (T := TX11) (N := 17) hx hb hts (fun _ h => List.mem_cons_of_mem _ (List.mem_append_left _ (List.mem_append_right _ h))) hown hK hP 0 rfl rfl 5 (by decide) (hts (.fieldLink RX11 49 "LeftArguments" "room" "LLeftArguments$Room;") (List.mem_cons_of_mem _ (List.mem_append_left _ (List.mem_append_left _ (List.mem_of_getElem? (i := 0) rfl))))) (fun _ h9 => h9) rfl dX11_call_1 ?_
  refine lv_iload_n hx hb dX11_call_4 rfl (lv_at hl 1 rfl) ?_
  have hPc := hP.sub (ws' := [(h1, .inr (7, [.ref h2, .ref r12, .int 0, .int 0])), (h2, .inl (g0, 58, .inl (fun _ => 0)))]) [1, 2] rfl
  have hDc := hD.sub (ws' := [(h1, .inr (7, [.ref h2, .ref r12, .int 0, .int 0])), (h2, .inl (g0, 58, .inl (fun _ => 0)))]) [1, 2] (by decide) rfl
  have hKc := hK.sub (tys' := [(g0, .int)]) [0] rfl
  have hFc := va_free (wc := [(h1, .inr (7, [.ref h2, .ref r12, .int 0, .int 0])), (h2, .inl (g0, 58, .inl (fun _ => 0)))]) hD hS hA [1, 2] rfl
  refine va_calli (va_runV (As := [.int v0]) (rest := []) ⟨hx, hb, hml, hown, hts⟩ (k_X7_has l dC dI g0 h1 h2 r12 v0  s.heap.size) (cwV 1 hts g_X11_call_0 rfl rfl rfl (by decide +kernel) ⟨Nat.le_of_ble_eq_true rfl, Nat.le_of_ble_eq_true rfl⟩) ⟨fun a U g mk q => by obtain ⟨q0, q1, qP, qK, qD⟩ := q; exact ⟨q0, q1, qP, va_K.moved (u := U) (U := U.calling g mk a) (Vm.Alike.refl U.vm) qK, qD⟩, va_recv hKc hPc (ci := 7) (q0 := 0) rfl rfl, fun U hU hW => ⟨rfl, by rw [hU], by rw [hU]; exact hPc, va_K.moved hW.alike hKc, hDc.weaken (fun _ _ _ _ => trivial)⟩⟩ rfl rfl hl.1 rfl (lv_room (Nat.le_of_ble_eq_true rfl)) dX11_call_5 ⟨Nat.le_of_ble_eq_true rfl, Nat.le_of_ble_eq_true rfl⟩) hS (fun q _ h => hFc q h) hFc (fun ra1 u t H1 locs ht hvm hw hB hz1 hk1 hS => ?_)
  obtain ⟨hP1, hK1, hD1⟩ := hB
  rw [ht] at hP1
  obtain ⟨hP, hD⟩ := va_join (wr := [(h0, .inr (11, [.ref r0, .ref r1, .ref r2, .ref r3, .ref r4, .ref h1, .ref r5, .ref r6, .ref r7, .ref r8, .ref r9, .ref r10, .ref r11, .ref h3, .int 0, .int 5, .long 0])), (h3, .inl (g1, 5, .inl (fun _ => 0)))]) (w1 := [(h1, .inr (7, [.ref h2, .ref r12, .int 0, .int 0])), (h2, .inl (g0, 58, .inl (fun _ => 0)))]) hP hD [1, 2] [0, 3] rfl rfl (by decide) (by decide) hk1 hFc hP1 hD1
  generalize H1 = H at hP hS ⊢
  have hP : va_P (dC, dI) vwCl [(h0, .inr (11, [.ref r0, .ref r1, .ref r2, .ref r3, .ref r4, .ref h1, .ref r5, .ref r6, .ref r7, .ref r8, .ref r9, .ref r10, .ref r11, .ref h3, .int 0, .int 5, .long 0])), (h3, .inl (g1, 5, .inl (fun _ => 0))), (h1, .inr (7, [.ref h2, .ref r12, .int 0, .int 0])), (h2, .inl (g0, 58, .inl (fun _ => 0)))] H := hP
  have hD : va_D A [(h0, .inr (11, [.ref r0, .ref r1, .ref r2, .ref r3, .ref r4, .ref h1, .ref r5, .ref r6, .ref r7, .ref r8, .ref r9, .ref r10, .ref r11, .ref h3, .int 0, .int 5, .long 0])), (h3, .inl (g1, 5, .inl (fun _ => 0))), (h1, .inr (7, [.ref h2, .ref r12, .int 0, .int 0])), (h2, .inl (g0, 58, .inl (fun _ => 0)))] := hD
  obtain rfl : ra1 = (0 : Int32) := hw
  refine lv_if_ne (tgt := 17) hx hb dX11_call_8 (by decide) (fun c => absurd (by decide) c) (fun _ => ?_)
  refine lv_aload_n hx hb dX11_call_11 rfl (lv_at hl 0 rfl) ?_
  refine lv_iconst (v := 0) hx hb dX11_call_12 (by decide) ?_
  have hPc := hP.sub (ws' := [(h0, .inr (11, [.ref r0, .ref r1, .ref r2, .ref r3, .ref r4, .ref h1, .ref r5, .ref r6, .ref r7, .ref r8, .ref r9, .ref r10, .ref r11, .ref h3, .int 0, .int 5, .long 0])), (h3, .inl (g1, 5, .inl (fun _ => 0)))]) [0, 1] rfl
  have hDc := hD.sub (ws' := [(h0, .inr (11, [.ref r0, .ref r1, .ref r2, .ref r3, .ref r4, .ref h1, .ref r5, .ref r6, .ref r7, .ref r8, .ref r9, .ref r10, .ref r11, .ref h3, .int 0, .int 5, .long 0])), (h3, .inl (g1, 5, .inl (fun _ => 0)))]) [0, 1] (by decide) rfl
  have hKc := hK.sub (tys' := [(g1, .int)]) [1] rfl
  have hFc := va_free (wc := [(h0, .inr (11, [.ref r0, .ref r1, .ref r2, .ref r3, .ref r4, .ref h1, .ref r5, .ref r6, .ref r7, .ref r8, .ref r9, .ref r10, .ref r11, .ref h3, .int 0, .int 5, .long 0])), (h3, .inl (g1, 5, .inl (fun _ => 0)))]) hD hS hA [0, 1] rfl
  refine va_calli (va_runV (As := [.int 0]) (rest := []) ⟨hx, hb, hml, hown, hts⟩ (k_X11_refuse l dC dI g1 h0 h3 r0 r1 r2 r3 r4 h1 r5 r6 r7 r8 r9 r10 r11  H.size) (cwV 1 hts g_X11_call_1 rfl rfl rfl (by decide +kernel) ⟨Nat.le_of_ble_eq_true rfl, Nat.le_of_ble_eq_true rfl⟩) ⟨fun a U g mk q => by obtain ⟨q0, q1, qP, qK, qD⟩ := q; exact ⟨q0, q1, qP, va_K.moved (u := U) (U := U.calling g mk a) (Vm.Alike.refl U.vm) qK, qD⟩, va_recv hKc hPc (ci := 11) (q0 := 0) rfl rfl, fun U hU hW => ⟨rfl, by rw [hU], by rw [hU]; exact hPc, va_K.moved hW.alike hKc, hDc.weaken (fun _ _ _ _ => trivial)⟩⟩ rfl rfl hl.1 rfl (lv_room (Nat.le_of_ble_eq_true rfl)) dX11_call_13 ⟨Nat.le_of_ble_eq_true rfl, Nat.le_of_ble_eq_true rfl⟩) hS (fun q _ h => hFc q h) hFc (fun ra2 u t H1 locs ht hvm hw hB hz1 hk1 hS => ?_)
  obtain ⟨hP1, hK1, hD1⟩ := hB
  rw [ht] at hP1
  obtain ⟨hP, hD⟩ := va_join (wr := [(h1, .inr (7, [.ref h2, .ref r12, .int 0, .int 0])), (h2, .inl (g0, 58, .inl (fun _ => 0)))]) (w1 := [(h0, .inr (11, [.ref r0, .ref r1, .ref r2, .ref r3, .ref r4, .ref h1, .ref r5, .ref r6, .ref r7, .ref r8, .ref r9, .ref r10, .ref r11, .ref h3, .int 0, .int 5, .long 0])), (h3, .inl (g1, 5, .inl (upd (fun _ => 0) 0 1)))]) hP hD [0, 1] [2, 3] rfl rfl (by decide) (by decide) hk1 hFc hP1 hD1
  generalize H1 = H at hP hS ⊢
  have hP : va_P (dC, dI) vwCl [(h1, .inr (7, [.ref h2, .ref r12, .int 0, .int 0])), (h2, .inl (g0, 58, .inl (fun _ => 0))), (h0, .inr (11, [.ref r0, .ref r1, .ref r2, .ref r3, .ref r4, .ref h1, .ref r5, .ref r6, .ref r7, .ref r8, .ref r9, .ref r10, .ref r11, .ref h3, .int 0, .int 5, .long 0])), (h3, .inl (g1, 5, .inl (upd (fun _ => 0) 0 1)))] H := hP
  have hD : va_D A [(h1, .inr (7, [.ref h2, .ref r12, .int 0, .int 0])), (h2, .inl (g0, 58, .inl (fun _ => 0))), (h0, .inr (11, [.ref r0, .ref r1, .ref r2, .ref r3, .ref r4, .ref h1, .ref r5, .ref r6, .ref r7, .ref r8, .ref r9, .ref r10, .ref r11, .ref h3, .int 0, .int 5, .long 0])), (h3, .inl (g1, 5, .inl (upd (fun _ => 0) 0 1)))] := hD
  obtain rfl : ra2 = ((-1) : Int32) := hw
  have hP9 := hP.sub (ws' := [(h1, .inr (7, [.ref h2, .ref r12, .int 0, .int 0])), (h2, .inl (g0, 58, .inl (fun _ => 0))), (h0, .inr (11, [.ref r0, .ref r1, .ref r2, .ref r3, .ref r4, .ref h1, .ref r5, .ref r6, .ref r7, .ref r8, .ref r9, .ref r10, .ref r11, .ref h3, .int 0, .int 5, .long 0])), (h3, .inl (g1, 5, .inl (upd (fun _ => 0) 0 1)))]) [0, 1, 2, 3] rfl
  have hD9 := hD.sub (ws' := [(h1, .inr (7, [.ref h2, .ref r12, .int 0, .int 0])), (h2, .inl (g0, 58, .inl (fun _ => 0))), (h0, .inr (11, [.ref r0, .ref r1, .ref r2, .ref r3, .ref r4, .ref h1, .ref r5, .ref r6, .ref r7, .ref r8, .ref r9, .ref r10, .ref r11, .ref h3, .int 0, .int 5, .long 0])), (h3, .inl (g1, 5, .inl (upd (fun _ => 0) 0 1)))]) [0, 1, 2, 3] (by decide) rfl
  have hK9 := hK.sub (tys' := [(g0, .int), (g1, .int)]) [0, 1] rfl
  exact W.iret (v := (-1)) hx hb hr (fun t ht hW => ⟨⟨(-1), (), rfl, rfl, by rw [ht]; exact hP9, va_K.moved hW.alike hK9, hD9⟩, hS.F ht⟩) hS.2.2 dX11_call_16
def q_X11_move : List Cond := .code yX11_move cX11_move 5 (some .int) :: (([.fieldLink RX11 49 "LeftArguments" "room" "LLeftArguments$Room;", .code yX7_has cX7_has 2 (some .boolean), .fieldLink RX7 11 "LeftArguments$Room" "cells" "[I", .initialized RX7, .instanceMethod yX7_has, .selects RX7 yX7_has yX7_has, .methodLink RX11 169 yX7_has, .code yX11_refuse cX11_refuse 2 (some .int), .fieldLink RX11 96 "LeftArguments" "refused" "[I", .initialized RX11, .instanceMethod yX11_refuse, .selects RX11 yX11_refuse yX11_refuse, .methodLink RX11 229 yX11_refuse] : List Cond) ++ wsX110 ++ wsX70)
set_option maxRecDepth 20000 in
theorem g_X11_move_0 : GoodIn q_X11_move (wsV RX11 169 RX7 yX7_has q_X7_has) := goodIn_app (goodIn_r _ [7, 5, 6, 4] (by decide +kernel) (by decide +kernel)) (goodIn_ca (goodIn_r (.code yX7_has cX7_has 2 (some .boolean) :: [.fieldLink RX7 11 "LeftArguments$Room" "cells" "[I"]) [2, 3] (by decide +kernel) (by decide +kernel)) (goodIn_sub (fun _ h => List.mem_cons_of_mem _ (List.mem_append_right _ h)) gwX7))
set_option maxRecDepth 20000 in
theorem g_X11_move_1 : GoodIn q_X11_move (wsV RX11 229 RX11 yX11_refuse q_X11_refuse) := goodIn_app (goodIn_r _ [13, 11, 12, 10] (by decide +kernel) (by decide +kernel)) (goodIn_ca (goodIn_r (.code yX11_refuse cX11_refuse 2 (some .int) :: [.fieldLink RX11 96 "LeftArguments" "refused" "[I"]) [8, 9] (by decide +kernel) (by decide +kernel)) (goodIn_sub (fun _ h => List.mem_cons_of_mem _ (List.mem_append_left _ (List.mem_append_right _ h))) gwX11))
set_option maxHeartbeats 4000000 in
set_option maxRecDepth 100000 in
theorem k_X11_move (l : Launch) (dC : Nat → ClassId) (dI : Nat → Nat → Nat) (g0 g1 : ClassId) (h0 h1 h2 h3 : Nat) (r0 r1 r2 r3 r4 r5 r6 r7 r8 r9 r10 r11 r12 : Nat) (v0 v1 : Int32) (sz : Nat) : Met l yX11_move q_X11_move ({ frames := 1, cells := 0, slots := 0, locals := 21 }) (va_Pc [.ref h0, .int v0, .int v1] (fun U => U.heap.size = sz ∧ va_P (dC, dI) vwCl [(h0, .inr (11, [.ref r0, .ref r1, .ref r2, .ref r3, .ref r4, .ref h1, .ref r5, .ref r6, .ref r7, .ref r8, .ref r9, .ref r10, .ref r11, .ref h3, .int 0, .int 5, .long 0])), (h1, .inr (7, [.ref h2, .ref r12, .int 0, .int 0])), (h2, .inl (g0, 58, .inl (fun _ => 0))), (h3, .inl (g1, 5, .inl (fun _ => 0)))] U.heap ∧ va_K (dC, dI) vwCl [(g0, .int), (g1, .int)] U ∧ va_D (fun _ => True) [(h0, .inr (11, [.ref r0, .ref r1, .ref r2, .ref r3, .ref r4, .ref h1, .ref r5, .ref r6, .ref r7, .ref r8, .ref r9, .ref r10, .ref r11, .ref h3, .int 0, .int 5, .long 0])), (h1, .inr (7, [.ref h2, .ref r12, .int 0, .int 0])), (h2, .inl (g0, 58, .inl (fun _ => 0))), (h3, .inl (g1, 5, .inl (fun _ => 0)))])) (va_Qi (fun (r : Int32) (_ : Unit) => r = (-1)) (fun (_ : Unit) (t : State) => va_P (dC, dI) vwCl [(h1, .inr (7, [.ref h2, .ref r12, .int 0, .int 0])), (h2, .inl (g0, 58, .inl (fun _ => 0))), (h0, .inr (11, [.ref r0, .ref r1, .ref r2, .ref r3, .ref r4, .ref h1, .ref r5, .ref r6, .ref r7, .ref r8, .ref r9, .ref r10, .ref r11, .ref h3, .int 0, .int 5, .long 0])), (h3, .inl (g1, 5, .inl (upd (fun _ => 0) 0 1)))] t.heap ∧ va_K (dC, dI) vwCl [(g0, .int), (g1, .int)] t ∧ va_D (va_A [(h0, .inr (11, [.ref r0, .ref r1, .ref r2, .ref r3, .ref r4, .ref h1, .ref r5, .ref r6, .ref r7, .ref r8, .ref r9, .ref r10, .ref r11, .ref h3, .int 0, .int 5, .long 0])), (h1, .inr (7, [.ref h2, .ref r12, .int 0, .int 0])), (h2, .inl (g0, 58, .inl (fun _ => 0))), (h3, .inl (g1, 5, .inl (fun _ => 0)))] sz) [(h1, .inr (7, [.ref h2, .ref r12, .int 0, .int 0])), (h2, .inl (g0, 58, .inl (fun _ => 0))), (h0, .inr (11, [.ref r0, .ref r1, .ref r2, .ref r3, .ref r4, .ref h1, .ref r5, .ref r6, .ref r7, .ref r8, .ref r9, .ref r10, .ref r11, .ref h3, .int 0, .int 5, .long 0])), (h3, .inl (g1, 5, .inl (upd (fun _ => 0) 0 1)))]) (va_A [(h0, .inr (11, [.ref r0, .ref r1, .ref r2, .ref r3, .ref r4, .ref h1, .ref r5, .ref r6, .ref r7, .ref r8, .ref r9, .ref r10, .ref r11, .ref h3, .int 0, .int 5, .long 0])), (h1, .inr (7, [.ref h2, .ref r12, .int 0, .int 0])), (h2, .inl (g0, 58, .inl (fun _ => 0))), (h3, .inl (g1, 5, .inl (fun _ => 0)))] sz)) 0 0 (va_A [(h0, .inr (11, [.ref r0, .ref r1, .ref r2, .ref r3, .ref r4, .ref h1, .ref r5, .ref r6, .ref r7, .ref r8, .ref r9, .ref r10, .ref r11, .ref h3, .int 0, .int 5, .long 0])), (h1, .inr (7, [.ref h2, .ref r12, .int 0, .int 0])), (h2, .inl (g0, 58, .inl (fun _ => 0))), (h3, .inl (g1, 5, .inl (fun _ => 0)))] sz) := by
  refine Met.ofW (cc := cX11_move) (maxL := 5) (ret := (some .int)) (by decide) rfl ?_
  intro p e s m args below meth c s₁ B hml hv
  obtain ⟨rfl, hsz, hP, hK, hD0⟩ := hv
  have hx := B.exec
  have hb := B.bytes
  have hr := B.returns
  have hts := atoms_spec (ws := q_X11_move) B.pre
  have hown : s.vm.findClass RX11 = some m.cls := findClass_of_methodNamed B.named
  have hlocks := B.notSynchronized
  subst hsz
  have hD := hD0.self (sz := s.heap.size)
  generalize hAe : va_A [(h0, .inr (11, [.ref r0, .ref r1, .ref r2, .ref r3, .ref r4, .ref h1, .ref r5, .ref r6, .ref r7, .ref r8, .ref r9, .ref r10, .ref r11, .ref h3, .int 0, .int 5, .long 0])), (h1, .inr (7, [.ref h2, .ref r12, .int 0, .int 0])), (h2, .inl (g0, 58, .inl (fun _ => 0))), (h3, .inl (g1, 5, .inl (fun _ => 0)))] s.heap.size = A at hD ⊢
  have hA : ∀ q : Nat, s.heap.size ≤ q → A q := fun q h => by rw [← hAe]; exact Or.inr h
  have hS : va_S A s.heap s.heap [] := va_S.rf
  have hl := lv_entry ([.ref h0, .int v0, .int v1]) (n := 5) (Nat.le_of_ble_eq_true rfl)
  rw [lg_entry_eq]
  generalize (lg_sl ([.ref h0, .int v0, .int v1]) ++ List.replicate (5 - (lg_sl ([.ref h0, .int v0, .int v1])).length) Slot.unset).toArray = ls at hl ⊢
  have hl : lv_has ls 5 [(0, .ref h0), (1, .int v0), (2, .int v1)] := hl
  refine lv_aload_n hx hb dX11_move_0 rfl (lv_at hl 0 rfl) ?_
  refine va_get (D := (dC, dI)) (ci := 11) (v := .ref h1) (C := RX11) (T := TX11) (N := 17) hx hb hts (fun _ h => List.mem_cons_of_mem _ (List.mem_append_left _ (List.mem_append_right _ h))) hown hK hP 0 rfl rfl 5 (by decide) (hts (.fieldLink RX11 49 "LeftArguments" "room" "LLeftArguments$Room;") (List.mem_cons_of_mem _ (List.mem_append_left _ (List.mem_append_left _ (List.mem_of_getElem? (i := 0) rfl))))) (fun _ h9 => h9) rfl dX11_move_1 ?_
  refine lv_iload_n hx hb dX11_move_4 rfl (lv_at hl 1 rfl) ?_
  have hPc := hP.sub (ws' := [(h1, .inr (7, [.ref h2, .ref r12, .int 0, .int 0])), (h2, .inl (g0, 58, .inl (fun _ => 0)))]) [1, 2] rfl
  have hDc := hD.sub (ws' := [(h1, .inr (7, [.ref h2, .ref r12, .int 0, .int 0])), (h2, .inl (g0, 58, .inl (fun _ => 0)))]) [1, 2] (by decide) rfl
  have hKc := hK.sub (tys' := [(g0, .int)]) [0] rfl
  have hFc := va_free (wc := [(h1, .inr (7, [.ref h2, .ref r12, .int 0, .int 0])), (h2, .inl (g0, 58, .inl (fun _ => 0)))]) hD hS hA [1, 2] rfl
  refine va_calli (va_runV (As := [.int v0]) (rest := []) ⟨hx, hb, hml, hown, hts⟩ (k_X7_has l dC dI g0 h1 h2 r12 v0  s.heap.size) (cwV 1 hts g_X11_move_0 rfl rfl rfl (by decide +kernel) ⟨Nat.le_of_ble_eq_true rfl, Nat.le_of_ble_eq_true rfl⟩) ⟨fun a U g mk q => by obtain ⟨q0, q1, qP, qK, qD⟩ := q; exact ⟨q0, q1, qP, va_K.moved (u := U) (U := U.calling g mk a) (Vm.Alike.refl U.vm) qK, qD⟩, va_recv hKc hPc (ci := 7) (q0 := 0) rfl rfl, fun U hU hW => ⟨rfl, by rw [hU], by rw [hU]; exact hPc, va_K.moved hW.alike hKc, hDc.weaken (fun _ _ _ _ => trivial)⟩⟩ rfl rfl hl.1 rfl (lv_room (Nat.le_of_ble_eq_true rfl)) dX11_move_5 ⟨Nat.le_of_ble_eq_true rfl, Nat.le_of_ble_eq_true rfl⟩) hS (fun q _ h => hFc q h) hFc (fun ra1 u t H1 locs ht hvm hw hB hz1 hk1 hS => ?_)
  obtain ⟨hP1, hK1, hD1⟩ := hB
  rw [ht] at hP1
  obtain ⟨hP, hD⟩ := va_join (wr := [(h0, .inr (11, [.ref r0, .ref r1, .ref r2, .ref r3, .ref r4, .ref h1, .ref r5, .ref r6, .ref r7, .ref r8, .ref r9, .ref r10, .ref r11, .ref h3, .int 0, .int 5, .long 0])), (h3, .inl (g1, 5, .inl (fun _ => 0)))]) (w1 := [(h1, .inr (7, [.ref h2, .ref r12, .int 0, .int 0])), (h2, .inl (g0, 58, .inl (fun _ => 0)))]) hP hD [1, 2] [0, 3] rfl rfl (by decide) (by decide) hk1 hFc hP1 hD1
  generalize H1 = H at hP hS ⊢
  have hP : va_P (dC, dI) vwCl [(h0, .inr (11, [.ref r0, .ref r1, .ref r2, .ref r3, .ref r4, .ref h1, .ref r5, .ref r6, .ref r7, .ref r8, .ref r9, .ref r10, .ref r11, .ref h3, .int 0, .int 5, .long 0])), (h3, .inl (g1, 5, .inl (fun _ => 0))), (h1, .inr (7, [.ref h2, .ref r12, .int 0, .int 0])), (h2, .inl (g0, 58, .inl (fun _ => 0)))] H := hP
  have hD : va_D A [(h0, .inr (11, [.ref r0, .ref r1, .ref r2, .ref r3, .ref r4, .ref h1, .ref r5, .ref r6, .ref r7, .ref r8, .ref r9, .ref r10, .ref r11, .ref h3, .int 0, .int 5, .long 0])), (h3, .inl (g1, 5, .inl (fun _ => 0))), (h1, .inr (7, [.ref h2, .ref r12, .int 0, .int 0])), (h2, .inl (g0, 58, .inl (fun _ => 0)))] := hD
  obtain rfl : ra1 = (0 : Int32) := hw
  refine lv_if_ne (tgt := 17) hx hb dX11_move_8 (by decide) (fun c => absurd (by decide) c) (fun _ => ?_)
  refine lv_aload_n hx hb dX11_move_11 rfl (lv_at hl 0 rfl) ?_
  refine lv_iconst (v := 0) hx hb dX11_move_12 (by decide) ?_
  have hPc := hP.sub (ws' := [(h0, .inr (11, [.ref r0, .ref r1, .ref r2, .ref r3, .ref r4, .ref h1, .ref r5, .ref r6, .ref r7, .ref r8, .ref r9, .ref r10, .ref r11, .ref h3, .int 0, .int 5, .long 0])), (h3, .inl (g1, 5, .inl (fun _ => 0)))]) [0, 1] rfl
  have hDc := hD.sub (ws' := [(h0, .inr (11, [.ref r0, .ref r1, .ref r2, .ref r3, .ref r4, .ref h1, .ref r5, .ref r6, .ref r7, .ref r8, .ref r9, .ref r10, .ref r11, .ref h3, .int 0, .int 5, .long 0])), (h3, .inl (g1, 5, .inl (fun _ => 0)))]) [0, 1] (by decide) rfl
  have hKc := hK.sub (tys' := [(g1, .int)]) [1] rfl
  have hFc := va_free (wc := [(h0, .inr (11, [.ref r0, .ref r1, .ref r2, .ref r3, .ref r4, .ref h1, .ref r5, .ref r6, .ref r7, .ref r8, .ref r9, .ref r10, .ref r11, .ref h3, .int 0, .int 5, .long 0])), (h3, .inl (g1, 5, .inl (fun _ => 0)))]) hD hS hA [0, 1] rfl
  refine va_calli (va_runV (As := [.int 0]) (rest := []) ⟨hx, hb, hml, hown, hts⟩ (k_X11_refuse l dC dI g1 h0 h3 r0 r1 r2 r3 r4 h1 r5 r6 r7 r8 r9 r10 r11  H.size) (cwV 1 hts g_X11_move_1 rfl rfl rfl (by decide +kernel) ⟨Nat.le_of_ble_eq_true rfl, Nat.le_of_ble_eq_true rfl⟩) ⟨fun a U g mk q => by obtain ⟨q0, q1, qP, qK, qD⟩ := q; exact ⟨q0, q1, qP, va_K.moved (u := U) (U := U.calling g mk a) (Vm.Alike.refl U.vm) qK, qD⟩, va_recv hKc hPc (ci := 11) (q0 := 0) rfl rfl, fun U hU hW => ⟨rfl, by rw [hU], by rw [hU]; exact hPc, va_K.moved hW.alike hKc, hDc.weaken (fun _ _ _ _ => trivial)⟩⟩ rfl rfl hl.1 rfl (lv_room (Nat.le_of_ble_eq_true rfl)) dX11_move_13 ⟨Nat.le_of_ble_eq_true rfl, Nat.le_of_ble_eq_true rfl⟩) hS (fun q _ h => hFc q h) hFc (fun ra2 u t H1 locs ht hvm hw hB hz1 hk1 hS => ?_)
  obtain ⟨hP1, hK1, hD1⟩ := hB
  rw [ht] at hP1
  obtain ⟨hP, hD⟩ := va_join (wr := [(h1, .inr (7, [.ref h2, .ref r12, .int 0, .int 0])), (h2, .inl (g0, 58, .inl (fun _ => 0)))]) (w1 := [(h0, .inr (11, [.ref r0, .ref r1, .ref r2, .ref r3, .ref r4, .ref h1, .ref r5, .ref r6, .ref r7, .ref r8, .ref r9, .ref r10, .ref r11, .ref h3, .int 0, .int 5, .long 0])), (h3, .inl (g1, 5, .inl (upd (fun _ => 0) 0 1)))]) hP hD [0, 1] [2, 3] rfl rfl (by decide) (by decide) hk1 hFc hP1 hD1
  generalize H1 = H at hP hS ⊢
  have hP : va_P (dC, dI) vwCl [(h1, .inr (7, [.ref h2, .ref r12, .int 0, .int 0])), (h2, .inl (g0, 58, .inl (fun _ => 0))), (h0, .inr (11, [.ref r0, .ref r1, .ref r2, .ref r3, .ref r4, .ref h1, .ref r5, .ref r6, .ref r7, .ref r8, .ref r9, .ref r10, .ref r11, .ref h3, .int 0, .int 5, .long 0])), (h3, .inl (g1, 5, .inl (upd (fun _ => 0) 0 1)))] H := hP
  have hD : va_D A [(h1, .inr (7, [.ref h2, .ref r12, .int 0, .int 0])), (h2, .inl (g0, 58, .inl (fun _ => 0))), (h0, .inr (11, [.ref r0, .ref r1, .ref r2, .ref r3, .ref r4, .ref h1, .ref r5, .ref r6, .ref r7, .ref r8, .ref r9, .ref r10, .ref r11, .ref h3, .int 0, .int 5, .long 0])), (h3, .inl (g1, 5, .inl (upd (fun _ => 0) 0 1)))] := hD
  obtain rfl : ra2 = ((-1) : Int32) := hw
  have hP9 := hP.sub (ws' := [(h1, .inr (7, [.ref h2, .ref r12, .int 0, .int 0])), (h2, .inl (g0, 58, .inl (fun _ => 0))), (h0, .inr (11, [.ref r0, .ref r1, .ref r2, .ref r3, .ref r4, .ref h1, .ref r5, .ref r6, .ref r7, .ref r8, .ref r9, .ref r10, .ref r11, .ref h3, .int 0, .int 5, .long 0])), (h3, .inl (g1, 5, .inl (upd (fun _ => 0) 0 1)))]) [0, 1, 2, 3] rfl
  have hD9 := hD.sub (ws' := [(h1, .inr (7, [.ref h2, .ref r12, .int 0, .int 0])), (h2, .inl (g0, 58, .inl (fun _ => 0))), (h0, .inr (11, [.ref r0, .ref r1, .ref r2, .ref r3, .ref r4, .ref h1, .ref r5, .ref r6, .ref r7, .ref r8, .ref r9, .ref r10, .ref r11, .ref h3, .int 0, .int 5, .long 0])), (h3, .inl (g1, 5, .inl (upd (fun _ => 0) 0 1)))]) [0, 1, 2, 3] (by decide) rfl
  have hK9 := hK.sub (tys' := [(g0, .int), (g1, .int)]) [0, 1] rfl
  exact W.iret (v := (-1)) hx hb hr (fun t ht hW => ⟨⟨(-1), (), rfl, rfl, by rw [ht]; exact hP9, va_K.moved hW.alike hK9, hD9⟩, hS.F ht⟩) hS.2.2 dX11_move_16
def q_X11_hush : List Cond := .code yX11_hush cX11_hush 2 (some .int) :: (([.fieldLink RX11 49 "LeftArguments" "room" "LLeftArguments$Room;", .code yX7_has cX7_has 2 (some .boolean), .fieldLink RX7 11 "LeftArguments$Room" "cells" "[I", .initialized RX7, .instanceMethod yX7_has, .selects RX7 yX7_has yX7_has, .methodLink RX11 169 yX7_has, .code yX11_refuse cX11_refuse 2 (some .int), .fieldLink RX11 96 "LeftArguments" "refused" "[I", .initialized RX11, .instanceMethod yX11_refuse, .selects RX11 yX11_refuse yX11_refuse, .methodLink RX11 229 yX11_refuse] : List Cond) ++ wsX110 ++ wsX70)
set_option maxRecDepth 20000 in
theorem g_X11_hush_0 : GoodIn q_X11_hush (wsV RX11 169 RX7 yX7_has q_X7_has) := goodIn_app (goodIn_r _ [7, 5, 6, 4] (by decide +kernel) (by decide +kernel)) (goodIn_ca (goodIn_r (.code yX7_has cX7_has 2 (some .boolean) :: [.fieldLink RX7 11 "LeftArguments$Room" "cells" "[I"]) [2, 3] (by decide +kernel) (by decide +kernel)) (goodIn_sub (fun _ h => List.mem_cons_of_mem _ (List.mem_append_right _ h)) gwX7))
set_option maxRecDepth 20000 in
theorem g_X11_hush_1 : GoodIn q_X11_hush (wsV RX11 229 RX11 yX11_refuse q_X11_refuse) := goodIn_app (goodIn_r _ [13, 11, 12, 10] (by decide +kernel) (by decide +kernel)) (goodIn_ca (goodIn_r (.code yX11_refuse cX11_refuse 2 (some .int) :: [.fieldLink RX11 96 "LeftArguments" "refused" "[I"]) [8, 9] (by decide +kernel) (by decide +kernel)) (goodIn_sub (fun _ h => List.mem_cons_of_mem _ (List.mem_append_left _ (List.mem_append_right _ h))) gwX11))
set_option maxHeartbeats 4000000 in
set_option maxRecDepth 100000 in
theorem k_X11_hush (l : Launch) (dC : Nat → ClassId) (dI : Nat → Nat → Nat) (g0 g1 : ClassId) (h0 h1 h2 h3 : Nat) (r0 r1 r2 r3 r4 r5 r6 r7 r8 r9 r10 r11 r12 : Nat) (v0 : Int32) (sz : Nat) : Met l yX11_hush q_X11_hush ({ frames := 1, cells := 0, slots := 0, locals := 21 }) (va_Pc [.ref h0, .int v0] (fun U => U.heap.size = sz ∧ va_P (dC, dI) vwCl [(h0, .inr (11, [.ref r0, .ref r1, .ref r2, .ref r3, .ref r4, .ref h1, .ref r5, .ref r6, .ref r7, .ref r8, .ref r9, .ref r10, .ref r11, .ref h3, .int 0, .int 5, .long 0])), (h1, .inr (7, [.ref h2, .ref r12, .int 0, .int 0])), (h2, .inl (g0, 58, .inl (fun _ => 0))), (h3, .inl (g1, 5, .inl (fun _ => 0)))] U.heap ∧ va_K (dC, dI) vwCl [(g0, .int), (g1, .int)] U ∧ va_D (fun _ => True) [(h0, .inr (11, [.ref r0, .ref r1, .ref r2, .ref r3, .ref r4, .ref h1, .ref r5, .ref r6, .ref r7, .ref r8, .ref r9, .ref r10, .ref r11, .ref h3, .int 0, .int 5, .long 0])), (h1, .inr (7, [.ref h2, .ref r12, .int 0, .int 0])), (h2, .inl (g0, 58, .inl (fun _ => 0))), (h3, .inl (g1, 5, .inl (fun _ => 0)))])) (va_Qi (fun (r : Int32) (_ : Unit) => r = (-1)) (fun (_ : Unit) (t : State) => va_P (dC, dI) vwCl [(h1, .inr (7, [.ref h2, .ref r12, .int 0, .int 0])), (h2, .inl (g0, 58, .inl (fun _ => 0))), (h0, .inr (11, [.ref r0, .ref r1, .ref r2, .ref r3, .ref r4, .ref h1, .ref r5, .ref r6, .ref r7, .ref r8, .ref r9, .ref r10, .ref r11, .ref h3, .int 0, .int 5, .long 0])), (h3, .inl (g1, 5, .inl (upd (fun _ => 0) 0 1)))] t.heap ∧ va_K (dC, dI) vwCl [(g0, .int), (g1, .int)] t ∧ va_D (va_A [(h0, .inr (11, [.ref r0, .ref r1, .ref r2, .ref r3, .ref r4, .ref h1, .ref r5, .ref r6, .ref r7, .ref r8, .ref r9, .ref r10, .ref r11, .ref h3, .int 0, .int 5, .long 0])), (h1, .inr (7, [.ref h2, .ref r12, .int 0, .int 0])), (h2, .inl (g0, 58, .inl (fun _ => 0))), (h3, .inl (g1, 5, .inl (fun _ => 0)))] sz) [(h1, .inr (7, [.ref h2, .ref r12, .int 0, .int 0])), (h2, .inl (g0, 58, .inl (fun _ => 0))), (h0, .inr (11, [.ref r0, .ref r1, .ref r2, .ref r3, .ref r4, .ref h1, .ref r5, .ref r6, .ref r7, .ref r8, .ref r9, .ref r10, .ref r11, .ref h3, .int 0, .int 5, .long 0])), (h3, .inl (g1, 5, .inl (upd (fun _ => 0) 0 1)))]) (va_A [(h0, .inr (11, [.ref r0, .ref r1, .ref r2, .ref r3, .ref r4, .ref h1, .ref r5, .ref r6, .ref r7, .ref r8, .ref r9, .ref r10, .ref r11, .ref h3, .int 0, .int 5, .long 0])), (h1, .inr (7, [.ref h2, .ref r12, .int 0, .int 0])), (h2, .inl (g0, 58, .inl (fun _ => 0))), (h3, .inl (g1, 5, .inl (fun _ => 0)))] sz)) 0 0 (va_A [(h0, .inr (11, [.ref r0, .ref r1, .ref r2, .ref r3, .ref r4, .ref h1, .ref r5, .ref r6, .ref r7, .ref r8, .ref r9, .ref r10, .ref r11, .ref h3, .int 0, .int 5, .long 0])), (h1, .inr (7, [.ref h2, .ref r12, .int 0, .int 0])), (h2, .inl (g0, 58, .inl (fun _ => 0))), (h3, .inl (g1, 5, .inl (fun _ => 0)))] sz) := by
  refine Met.ofW (cc := cX11_hush) (maxL := 2) (ret := (some .int)) (by decide) rfl ?_
  intro p e s m args below meth c s₁ B hml hv
  obtain ⟨rfl, hsz, hP, hK, hD0⟩ := hv
  have hx := B.exec
  have hb := B.bytes
  have hr := B.returns
  have hts := atoms_spec (ws := q_X11_hush) B.pre
  have hown : s.vm.findClass RX11 = some m.cls := findClass_of_methodNamed B.named
  have hlocks := B.notSynchronized
  subst hsz
  have hD := hD0.self (sz := s.heap.size)
  generalize hAe : va_A [(h0, .inr (11, [.ref r0, .ref r1, .ref r2, .ref r3, .ref r4, .ref h1, .ref r5, .ref r6, .ref r7, .ref r8, .ref r9, .ref r10, .ref r11, .ref h3, .int 0, .int 5, .long 0])), (h1, .inr (7, [.ref h2, .ref r12, .int 0, .int 0])), (h2, .inl (g0, 58, .inl (fun _ => 0))), (h3, .inl (g1, 5, .inl (fun _ => 0)))] s.heap.size = A at hD ⊢
  have hA : ∀ q : Nat, s.heap.size ≤ q → A q := fun q h => by rw [← hAe]; exact Or.inr h
  have hS : va_S A s.heap s.heap [] := va_S.rf
  have hl := lv_entry ([.ref h0, .int v0]) (n := 2) (Nat.le_of_ble_eq_true rfl)
  rw [lg_entry_eq]
  generalize (lg_sl ([.ref h0, .int v0]) ++ List.replicate (2 - (lg_sl ([.ref h0, .int v0])).length) Slot.unset).toArray = ls at hl ⊢
  have hl : lv_has ls 2 [(0, .ref h0), (1, .int v0)] := hl
  refine lv_aload_n hx hb dX11_hush_0 rfl (lv_at hl 0 rfl) ?_
  refine va_get (D := (dC, dI)) (ci := 11) (v := .ref h1) (C := RX11) (T := TX11) (N := 17) hx hb hts (fun _ h => List.mem_cons_of_mem _ (List.mem_append_left _ (List.mem_append_right _ h))) hown hK hP 0 rfl rfl 5 (by decide) (hts (.fieldLink RX11 49 "LeftArguments" "room" "LLeftArguments$Room;") (List.mem_cons_of_mem _ (List.mem_append_left _ (List.mem_append_left _ (List.mem_of_getElem? (i := 0) rfl))))) (fun _ h9 => h9) rfl dX11_hush_1 ?_
  refine lv_iload_n hx hb dX11_hush_4 rfl (lv_at hl 1 rfl) ?_
  have hPc := hP.sub (ws' := [(h1, .inr (7, [.ref h2, .ref r12, .int 0, .int 0])), (h2, .inl (g0, 58, .inl (fun _ => 0)))]) [1, 2] rfl
  have hDc := hD.sub (ws' := [(h1, .inr (7, [.ref h2, .ref r12, .int 0, .int 0])), (h2, .inl (g0, 58, .inl (fun _ => 0)))]) [1, 2] (by decide) rfl
  have hKc := hK.sub (tys' := [(g0, .int)]) [0] rfl
  have hFc := va_free (wc := [(h1, .inr (7, [.ref h2, .ref r12, .int 0, .int 0])), (h2, .inl (g0, 58, .inl (fun _ => 0)))]) hD hS hA [1, 2] rfl
  refine va_calli (va_runV (As := [.int v0]) (rest := []) ⟨hx, hb, hml, hown, hts⟩ (k_X7_has l dC dI g0 h1 h2 r12 v0  s.heap.size) (cwV 1 hts g_X11_hush_0 rfl rfl rfl (by decide +kernel) ⟨Nat.le_of_ble_eq_true rfl, Nat.le_of_ble_eq_true rfl⟩) ⟨fun a U g mk q => by obtain ⟨q0, q1, qP, qK, qD⟩ := q; exact ⟨q0, q1, qP, va_K.moved (u := U) (U := U.calling g mk a) (Vm.Alike.refl U.vm) qK, qD⟩, va_recv hKc hPc (ci := 7) (q0 := 0) rfl rfl, fun U hU hW => ⟨rfl, by rw [hU], by rw [hU]; exact hPc, va_K.moved hW.alike hKc, hDc.weaken (fun _ _ _ _ => trivial)⟩⟩ rfl rfl hl.1 rfl (lv_room (Nat.le_of_ble_eq_true rfl)) dX11_hush_5 ⟨Nat.le_of_ble_eq_true rfl, Nat.le_of_ble_eq_true rfl⟩) hS (fun q _ h => hFc q h) hFc (fun ra1 u t H1 locs ht hvm hw hB hz1 hk1 hS => ?_)
  obtain ⟨hP1, hK1, hD1⟩ := hB
  rw [ht] at hP1
  obtain ⟨hP, hD⟩ := va_join (wr := [(h0, .inr (11, [.ref r0, .ref r1, .ref r2, .ref r3, .ref r4, .ref h1, .ref r5, .ref r6, .ref r7, .ref r8, .ref r9, .ref r10, .ref r11, .ref h3, .int 0, .int 5, .long 0])), (h3, .inl (g1, 5, .inl (fun _ => 0)))]) (w1 := [(h1, .inr (7, [.ref h2, .ref r12, .int 0, .int 0])), (h2, .inl (g0, 58, .inl (fun _ => 0)))]) hP hD [1, 2] [0, 3] rfl rfl (by decide) (by decide) hk1 hFc hP1 hD1
  generalize H1 = H at hP hS ⊢
  have hP : va_P (dC, dI) vwCl [(h0, .inr (11, [.ref r0, .ref r1, .ref r2, .ref r3, .ref r4, .ref h1, .ref r5, .ref r6, .ref r7, .ref r8, .ref r9, .ref r10, .ref r11, .ref h3, .int 0, .int 5, .long 0])), (h3, .inl (g1, 5, .inl (fun _ => 0))), (h1, .inr (7, [.ref h2, .ref r12, .int 0, .int 0])), (h2, .inl (g0, 58, .inl (fun _ => 0)))] H := hP
  have hD : va_D A [(h0, .inr (11, [.ref r0, .ref r1, .ref r2, .ref r3, .ref r4, .ref h1, .ref r5, .ref r6, .ref r7, .ref r8, .ref r9, .ref r10, .ref r11, .ref h3, .int 0, .int 5, .long 0])), (h3, .inl (g1, 5, .inl (fun _ => 0))), (h1, .inr (7, [.ref h2, .ref r12, .int 0, .int 0])), (h2, .inl (g0, 58, .inl (fun _ => 0)))] := hD
  obtain rfl : ra1 = (0 : Int32) := hw
  refine lv_if_ne (tgt := 17) hx hb dX11_hush_8 (by decide) (fun c => absurd (by decide) c) (fun _ => ?_)
  refine lv_aload_n hx hb dX11_hush_11 rfl (lv_at hl 0 rfl) ?_
  refine lv_iconst (v := 0) hx hb dX11_hush_12 (by decide) ?_
  have hPc := hP.sub (ws' := [(h0, .inr (11, [.ref r0, .ref r1, .ref r2, .ref r3, .ref r4, .ref h1, .ref r5, .ref r6, .ref r7, .ref r8, .ref r9, .ref r10, .ref r11, .ref h3, .int 0, .int 5, .long 0])), (h3, .inl (g1, 5, .inl (fun _ => 0)))]) [0, 1] rfl
  have hDc := hD.sub (ws' := [(h0, .inr (11, [.ref r0, .ref r1, .ref r2, .ref r3, .ref r4, .ref h1, .ref r5, .ref r6, .ref r7, .ref r8, .ref r9, .ref r10, .ref r11, .ref h3, .int 0, .int 5, .long 0])), (h3, .inl (g1, 5, .inl (fun _ => 0)))]) [0, 1] (by decide) rfl
  have hKc := hK.sub (tys' := [(g1, .int)]) [1] rfl
  have hFc := va_free (wc := [(h0, .inr (11, [.ref r0, .ref r1, .ref r2, .ref r3, .ref r4, .ref h1, .ref r5, .ref r6, .ref r7, .ref r8, .ref r9, .ref r10, .ref r11, .ref h3, .int 0, .int 5, .long 0])), (h3, .inl (g1, 5, .inl (fun _ => 0)))]) hD hS hA [0, 1] rfl
  refine va_calli (va_runV (As := [.int 0]) (rest := []) ⟨hx, hb, hml, hown, hts⟩ (k_X11_refuse l dC dI g1 h0 h3 r0 r1 r2 r3 r4 h1 r5 r6 r7 r8 r9 r10 r11  H.size) (cwV 1 hts g_X11_hush_1 rfl rfl rfl (by decide +kernel) ⟨Nat.le_of_ble_eq_true rfl, Nat.le_of_ble_eq_true rfl⟩) ⟨fun a U g mk q => by obtain ⟨q0, q1, qP, qK, qD⟩ := q; exact ⟨q0, q1, qP, va_K.moved (u := U) (U := U.calling g mk a) (Vm.Alike.refl U.vm) qK, qD⟩, va_recv hKc hPc (ci := 11) (q0 := 0) rfl rfl, fun U hU hW => ⟨rfl, by rw [hU], by rw [hU]; exact hPc, va_K.moved hW.alike hKc, hDc.weaken (fun _ _ _ _ => trivial)⟩⟩ rfl rfl hl.1 rfl (lv_room (Nat.le_of_ble_eq_true rfl)) dX11_hush_13 ⟨Nat.le_of_ble_eq_true rfl, Nat.le_of_ble_eq_true rfl⟩) hS (fun q _ h => hFc q h) hFc (fun ra2 u t H1 locs ht hvm hw hB hz1 hk1 hS => ?_)
  obtain ⟨hP1, hK1, hD1⟩ := hB
  rw [ht] at hP1
  obtain ⟨hP, hD⟩ := va_join (wr := [(h1, .inr (7, [.ref h2, .ref r12, .int 0, .int 0])), (h2, .inl (g0, 58, .inl (fun _ => 0)))]) (w1 := [(h0, .inr (11, [.ref r0, .ref r1, .ref r2, .ref r3, .ref r4, .ref h1, .ref r5, .ref r6, .ref r7, .ref r8, .ref r9, .ref r10, .ref r11, .ref h3, .int 0, .int 5, .long 0])), (h3, .inl (g1, 5, .inl (upd (fun _ => 0) 0 1)))]) hP hD [0, 1] [2, 3] rfl rfl (by decide) (by decide) hk1 hFc hP1 hD1
  generalize H1 = H at hP hS ⊢
  have hP : va_P (dC, dI) vwCl [(h1, .inr (7, [.ref h2, .ref r12, .int 0, .int 0])), (h2, .inl (g0, 58, .inl (fun _ => 0))), (h0, .inr (11, [.ref r0, .ref r1, .ref r2, .ref r3, .ref r4, .ref h1, .ref r5, .ref r6, .ref r7, .ref r8, .ref r9, .ref r10, .ref r11, .ref h3, .int 0, .int 5, .long 0])), (h3, .inl (g1, 5, .inl (upd (fun _ => 0) 0 1)))] H := hP
  have hD : va_D A [(h1, .inr (7, [.ref h2, .ref r12, .int 0, .int 0])), (h2, .inl (g0, 58, .inl (fun _ => 0))), (h0, .inr (11, [.ref r0, .ref r1, .ref r2, .ref r3, .ref r4, .ref h1, .ref r5, .ref r6, .ref r7, .ref r8, .ref r9, .ref r10, .ref r11, .ref h3, .int 0, .int 5, .long 0])), (h3, .inl (g1, 5, .inl (upd (fun _ => 0) 0 1)))] := hD
  obtain rfl : ra2 = ((-1) : Int32) := hw
  have hP9 := hP.sub (ws' := [(h1, .inr (7, [.ref h2, .ref r12, .int 0, .int 0])), (h2, .inl (g0, 58, .inl (fun _ => 0))), (h0, .inr (11, [.ref r0, .ref r1, .ref r2, .ref r3, .ref r4, .ref h1, .ref r5, .ref r6, .ref r7, .ref r8, .ref r9, .ref r10, .ref r11, .ref h3, .int 0, .int 5, .long 0])), (h3, .inl (g1, 5, .inl (upd (fun _ => 0) 0 1)))]) [0, 1, 2, 3] rfl
  have hD9 := hD.sub (ws' := [(h1, .inr (7, [.ref h2, .ref r12, .int 0, .int 0])), (h2, .inl (g0, 58, .inl (fun _ => 0))), (h0, .inr (11, [.ref r0, .ref r1, .ref r2, .ref r3, .ref r4, .ref h1, .ref r5, .ref r6, .ref r7, .ref r8, .ref r9, .ref r10, .ref r11, .ref h3, .int 0, .int 5, .long 0])), (h3, .inl (g1, 5, .inl (upd (fun _ => 0) 0 1)))]) [0, 1, 2, 3] (by decide) rfl
  have hK9 := hK.sub (tys' := [(g0, .int), (g1, .int)]) [0, 1] rfl
  exact W.iret (v := (-1)) hx hb hr (fun t ht hW => ⟨⟨(-1), (), rfl, rfl, by rw [ht]; exact hP9, va_K.moved hW.alike hK9, hD9⟩, hS.F ht⟩) hS.2.2 dX11_hush_16
def q_X11_sell : List Cond := .code yX11_sell cX11_sell 3 (some .int) :: (([.fieldLink RX11 49 "LeftArguments" "room" "LLeftArguments$Room;", .code yX7_has cX7_has 2 (some .boolean), .fieldLink RX7 11 "LeftArguments$Room" "cells" "[I", .initialized RX7, .instanceMethod yX7_has, .selects RX7 yX7_has yX7_has, .methodLink RX11 169 yX7_has, .code yX11_refuse cX11_refuse 2 (some .int), .fieldLink RX11 96 "LeftArguments" "refused" "[I", .initialized RX11, .instanceMethod yX11_refuse, .selects RX11 yX11_refuse yX11_refuse, .methodLink RX11 229 yX11_refuse] : List Cond) ++ wsX110 ++ wsX70)
set_option maxRecDepth 20000 in
theorem g_X11_sell_0 : GoodIn q_X11_sell (wsV RX11 169 RX7 yX7_has q_X7_has) := goodIn_app (goodIn_r _ [7, 5, 6, 4] (by decide +kernel) (by decide +kernel)) (goodIn_ca (goodIn_r (.code yX7_has cX7_has 2 (some .boolean) :: [.fieldLink RX7 11 "LeftArguments$Room" "cells" "[I"]) [2, 3] (by decide +kernel) (by decide +kernel)) (goodIn_sub (fun _ h => List.mem_cons_of_mem _ (List.mem_append_right _ h)) gwX7))
set_option maxRecDepth 20000 in
theorem g_X11_sell_1 : GoodIn q_X11_sell (wsV RX11 229 RX11 yX11_refuse q_X11_refuse) := goodIn_app (goodIn_r _ [13, 11, 12, 10] (by decide +kernel) (by decide +kernel)) (goodIn_ca (goodIn_r (.code yX11_refuse cX11_refuse 2 (some .int) :: [.fieldLink RX11 96 "LeftArguments" "refused" "[I"]) [8, 9] (by decide +kernel) (by decide +kernel)) (goodIn_sub (fun _ h => List.mem_cons_of_mem _ (List.mem_append_left _ (List.mem_append_right _ h))) gwX11))
set_option maxHeartbeats 4000000 in
set_option maxRecDepth 100000 in
theorem k_X11_sell (l : Launch) (dC : Nat → ClassId) (dI : Nat → Nat → Nat) (g0 g1 : ClassId) (h0 h1 h2 h3 : Nat) (r0 r1 r2 r3 r4 r5 r6 r7 r8 r9 r10 r11 r12 : Nat) (v0 : Int32) (sz : Nat) : Met l yX11_sell q_X11_sell ({ frames := 1, cells := 0, slots := 0, locals := 21 }) (va_Pc [.ref h0, .int v0] (fun U => U.heap.size = sz ∧ va_P (dC, dI) vwCl [(h0, .inr (11, [.ref r0, .ref r1, .ref r2, .ref r3, .ref r4, .ref h1, .ref r5, .ref r6, .ref r7, .ref r8, .ref r9, .ref r10, .ref r11, .ref h3, .int 0, .int 5, .long 0])), (h1, .inr (7, [.ref h2, .ref r12, .int 0, .int 0])), (h2, .inl (g0, 58, .inl (fun _ => 0))), (h3, .inl (g1, 5, .inl (fun _ => 0)))] U.heap ∧ va_K (dC, dI) vwCl [(g0, .int), (g1, .int)] U ∧ va_D (fun _ => True) [(h0, .inr (11, [.ref r0, .ref r1, .ref r2, .ref r3, .ref r4, .ref h1, .ref r5, .ref r6, .ref r7, .ref r8, .ref r9, .ref r10, .ref r11, .ref h3, .int 0, .int 5, .long 0])), (h1, .inr (7, [.ref h2, .ref r12, .int 0, .int 0])), (h2, .inl (g0, 58, .inl (fun _ => 0))), (h3, .inl (g1, 5, .inl (fun _ => 0)))])) (va_Qi (fun (r : Int32) (_ : Unit) => r = (-1)) (fun (_ : Unit) (t : State) => va_P (dC, dI) vwCl [(h1, .inr (7, [.ref h2, .ref r12, .int 0, .int 0])), (h2, .inl (g0, 58, .inl (fun _ => 0))), (h0, .inr (11, [.ref r0, .ref r1, .ref r2, .ref r3, .ref r4, .ref h1, .ref r5, .ref r6, .ref r7, .ref r8, .ref r9, .ref r10, .ref r11, .ref h3, .int 0, .int 5, .long 0])), (h3, .inl (g1, 5, .inl (upd (fun _ => 0) 0 1)))] t.heap ∧ va_K (dC, dI) vwCl [(g0, .int), (g1, .int)] t ∧ va_D (va_A [(h0, .inr (11, [.ref r0, .ref r1, .ref r2, .ref r3, .ref r4, .ref h1, .ref r5, .ref r6, .ref r7, .ref r8, .ref r9, .ref r10, .ref r11, .ref h3, .int 0, .int 5, .long 0])), (h1, .inr (7, [.ref h2, .ref r12, .int 0, .int 0])), (h2, .inl (g0, 58, .inl (fun _ => 0))), (h3, .inl (g1, 5, .inl (fun _ => 0)))] sz) [(h1, .inr (7, [.ref h2, .ref r12, .int 0, .int 0])), (h2, .inl (g0, 58, .inl (fun _ => 0))), (h0, .inr (11, [.ref r0, .ref r1, .ref r2, .ref r3, .ref r4, .ref h1, .ref r5, .ref r6, .ref r7, .ref r8, .ref r9, .ref r10, .ref r11, .ref h3, .int 0, .int 5, .long 0])), (h3, .inl (g1, 5, .inl (upd (fun _ => 0) 0 1)))]) (va_A [(h0, .inr (11, [.ref r0, .ref r1, .ref r2, .ref r3, .ref r4, .ref h1, .ref r5, .ref r6, .ref r7, .ref r8, .ref r9, .ref r10, .ref r11, .ref h3, .int 0, .int 5, .long 0])), (h1, .inr (7, [.ref h2, .ref r12, .int 0, .int 0])), (h2, .inl (g0, 58, .inl (fun _ => 0))), (h3, .inl (g1, 5, .inl (fun _ => 0)))] sz)) 0 0 (va_A [(h0, .inr (11, [.ref r0, .ref r1, .ref r2, .ref r3, .ref r4, .ref h1, .ref r5, .ref r6, .ref r7, .ref r8, .ref r9, .ref r10, .ref r11, .ref h3, .int 0, .int 5, .long 0])), (h1, .inr (7, [.ref h2, .ref r12, .int 0, .int 0])), (h2, .inl (g0, 58, .inl (fun _ => 0))), (h3, .inl (g1, 5, .inl (fun _ => 0)))] sz) := by
  refine Met.ofW (cc := cX11_sell) (maxL := 3) (ret := (some .int)) (by decide) rfl ?_
  intro p e s m args below meth c s₁ B hml hv
  obtain ⟨rfl, hsz, hP, hK, hD0⟩ := hv
  have hx := B.exec
  have hb := B.bytes
  have hr := B.returns
  have hts := atoms_spec (ws := q_X11_sell) B.pre
  have hown : s.vm.findClass RX11 = some m.cls := findClass_of_methodNamed B.named
  have hlocks := B.notSynchronized
  subst hsz
  have hD := hD0.self (sz := s.heap.size)
  generalize hAe : va_A [(h0, .inr (11, [.ref r0, .ref r1, .ref r2, .ref r3, .ref r4, .ref h1, .ref r5, .ref r6, .ref r7, .ref r8, .ref r9, .ref r10, .ref r11, .ref h3, .int 0, .int 5, .long 0])), (h1, .inr (7, [.ref h2, .ref r12, .int 0, .int 0])), (h2, .inl (g0, 58, .inl (fun _ => 0))), (h3, .inl (g1, 5, .inl (fun _ => 0)))] s.heap.size = A at hD ⊢
  have hA : ∀ q : Nat, s.heap.size ≤ q → A q := fun q h => by rw [← hAe]; exact Or.inr h
  have hS : va_S A s.heap s.heap [] := va_S.rf
  have hl := lv_entry ([.ref h0, .int v0]) (n := 3) (Nat.le_of_ble_eq_true rfl)
  rw [lg_entry_eq]
  generalize (lg_sl ([.ref h0, .int v0]) ++ List.replicate (3 - (lg_sl ([.ref h0, .int v0])).length) Slot.unset).toArray = ls at hl ⊢
  have hl : lv_has ls 3 [(0, .ref h0), (1, .int v0)] := hl
  refine lv_aload_n hx hb dX11_sell_0 rfl (lv_at hl 0 rfl) ?_
  refine va_get (D := (dC, dI)) (ci := 11) (v := .ref h1) (C := RX11) (T := TX11) (N := 17) hx hb hts (fun _ h => List.mem_cons_of_mem _ (List.mem_append_left _ (List.mem_append_right _ h))) hown hK hP 0 rfl rfl 5 (by decide) (hts (.fieldLink RX11 49 "LeftArguments" "room" "LLeftArguments$Room;") (List.mem_cons_of_mem _ (List.mem_append_left _ (List.mem_append_left _ (List.mem_of_getElem? (i := 0) rfl))))) (fun _ h9 => h9) rfl dX11_sell_1 ?_
  refine lv_iload_n hx hb dX11_sell_4 rfl (lv_at hl 1 rfl) ?_
  have hPc := hP.sub (ws' := [(h1, .inr (7, [.ref h2, .ref r12, .int 0, .int 0])), (h2, .inl (g0, 58, .inl (fun _ => 0)))]) [1, 2] rfl
  have hDc := hD.sub (ws' := [(h1, .inr (7, [.ref h2, .ref r12, .int 0, .int 0])), (h2, .inl (g0, 58, .inl (fun _ => 0)))]) [1, 2] (by decide) rfl
  have hKc := hK.sub (tys' := [(g0, .int)]) [0] rfl
  have hFc := va_free (wc := [(h1, .inr (7, [.ref h2, .ref r12, .int 0, .int 0])), (h2, .inl (g0, 58, .inl (fun _ => 0)))]) hD hS hA [1, 2] rfl
  refine va_calli (va_runV (As := [.int v0]) (rest := []) ⟨hx, hb, hml, hown, hts⟩ (k_X7_has l dC dI g0 h1 h2 r12 v0  s.heap.size) (cwV 1 hts g_X11_sell_0 rfl rfl rfl (by decide +kernel) ⟨Nat.le_of_ble_eq_true rfl, Nat.le_of_ble_eq_true rfl⟩) ⟨fun a U g mk q => by obtain ⟨q0, q1, qP, qK, qD⟩ := q; exact ⟨q0, q1, qP, va_K.moved (u := U) (U := U.calling g mk a) (Vm.Alike.refl U.vm) qK, qD⟩, va_recv hKc hPc (ci := 7) (q0 := 0) rfl rfl, fun U hU hW => ⟨rfl, by rw [hU], by rw [hU]; exact hPc, va_K.moved hW.alike hKc, hDc.weaken (fun _ _ _ _ => trivial)⟩⟩ rfl rfl hl.1 rfl (lv_room (Nat.le_of_ble_eq_true rfl)) dX11_sell_5 ⟨Nat.le_of_ble_eq_true rfl, Nat.le_of_ble_eq_true rfl⟩) hS (fun q _ h => hFc q h) hFc (fun ra1 u t H1 locs ht hvm hw hB hz1 hk1 hS => ?_)
  obtain ⟨hP1, hK1, hD1⟩ := hB
  rw [ht] at hP1
  obtain ⟨hP, hD⟩ := va_join (wr := [(h0, .inr (11, [.ref r0, .ref r1, .ref r2, .ref r3, .ref r4, .ref h1, .ref r5, .ref r6, .ref r7, .ref r8, .ref r9, .ref r10, .ref r11, .ref h3, .int 0, .int 5, .long 0])), (h3, .inl (g1, 5, .inl (fun _ => 0)))]) (w1 := [(h1, .inr (7, [.ref h2, .ref r12, .int 0, .int 0])), (h2, .inl (g0, 58, .inl (fun _ => 0)))]) hP hD [1, 2] [0, 3] rfl rfl (by decide) (by decide) hk1 hFc hP1 hD1
  generalize H1 = H at hP hS ⊢
  have hP : va_P (dC, dI) vwCl [(h0, .inr (11, [.ref r0, .ref r1, .ref r2, .ref r3, .ref r4, .ref h1, .ref r5, .ref r6, .ref r7, .ref r8, .ref r9, .ref r10, .ref r11, .ref h3, .int 0, .int 5, .long 0])), (h3, .inl (g1, 5, .inl (fun _ => 0))), (h1, .inr (7, [.ref h2, .ref r12, .int 0, .int 0])), (h2, .inl (g0, 58, .inl (fun _ => 0)))] H := hP
  have hD : va_D A [(h0, .inr (11, [.ref r0, .ref r1, .ref r2, .ref r3, .ref r4, .ref h1, .ref r5, .ref r6, .ref r7, .ref r8, .ref r9, .ref r10, .ref r11, .ref h3, .int 0, .int 5, .long 0])), (h3, .inl (g1, 5, .inl (fun _ => 0))), (h1, .inr (7, [.ref h2, .ref r12, .int 0, .int 0])), (h2, .inl (g0, 58, .inl (fun _ => 0)))] := hD
  obtain rfl : ra1 = (0 : Int32) := hw
  refine lv_if_ne (tgt := 17) hx hb dX11_sell_8 (by decide) (fun c => absurd (by decide) c) (fun _ => ?_)
  refine lv_aload_n hx hb dX11_sell_11 rfl (lv_at hl 0 rfl) ?_
  refine lv_iconst (v := 0) hx hb dX11_sell_12 (by decide) ?_
  have hPc := hP.sub (ws' := [(h0, .inr (11, [.ref r0, .ref r1, .ref r2, .ref r3, .ref r4, .ref h1, .ref r5, .ref r6, .ref r7, .ref r8, .ref r9, .ref r10, .ref r11, .ref h3, .int 0, .int 5, .long 0])), (h3, .inl (g1, 5, .inl (fun _ => 0)))]) [0, 1] rfl
  have hDc := hD.sub (ws' := [(h0, .inr (11, [.ref r0, .ref r1, .ref r2, .ref r3, .ref r4, .ref h1, .ref r5, .ref r6, .ref r7, .ref r8, .ref r9, .ref r10, .ref r11, .ref h3, .int 0, .int 5, .long 0])), (h3, .inl (g1, 5, .inl (fun _ => 0)))]) [0, 1] (by decide) rfl
  have hKc := hK.sub (tys' := [(g1, .int)]) [1] rfl
  have hFc := va_free (wc := [(h0, .inr (11, [.ref r0, .ref r1, .ref r2, .ref r3, .ref r4, .ref h1, .ref r5, .ref r6, .ref r7, .ref r8, .ref r9, .ref r10, .ref r11, .ref h3, .int 0, .int 5, .long 0])), (h3, .inl (g1, 5, .inl (fun _ => 0)))]) hD hS hA [0, 1] rfl
  refine va_calli (va_runV (As := [.int 0]) (rest := []) ⟨hx, hb, hml, hown, hts⟩ (k_X11_refuse l dC dI g1 h0 h3 r0 r1 r2 r3 r4 h1 r5 r6 r7 r8 r9 r10 r11  H.size) (cwV 1 hts g_X11_sell_1 rfl rfl rfl (by decide +kernel) ⟨Nat.le_of_ble_eq_true rfl, Nat.le_of_ble_eq_true rfl⟩) ⟨fun a U g mk q => by obtain ⟨q0, q1, qP, qK, qD⟩ := q; exact ⟨q0, q1, qP, va_K.moved (u := U) (U := U.calling g mk a) (Vm.Alike.refl U.vm) qK, qD⟩, va_recv hKc hPc (ci := 11) (q0 := 0) rfl rfl, fun U hU hW => ⟨rfl, by rw [hU], by rw [hU]; exact hPc, va_K.moved hW.alike hKc, hDc.weaken (fun _ _ _ _ => trivial)⟩⟩ rfl rfl hl.1 rfl (lv_room (Nat.le_of_ble_eq_true rfl)) dX11_sell_13 ⟨Nat.le_of_ble_eq_true rfl, Nat.le_of_ble_eq_true rfl⟩) hS (fun q _ h => hFc q h) hFc (fun ra2 u t H1 locs ht hvm hw hB hz1 hk1 hS => ?_)
  obtain ⟨hP1, hK1, hD1⟩ := hB
  rw [ht] at hP1
  obtain ⟨hP, hD⟩ := va_join (wr := [(h1, .inr (7, [.ref h2, .ref r12, .int 0, .int 0])), (h2, .inl (g0, 58, .inl (fun _ => 0)))]) (w1 := [(h0, .inr (11, [.ref r0, .ref r1, .ref r2, .ref r3, .ref r4, .ref h1, .ref r5, .ref r6, .ref r7, .ref r8, .ref r9, .ref r10, .ref r11, .ref h3, .int 0, .int 5, .long 0])), (h3, .inl (g1, 5, .inl (upd (fun _ => 0) 0 1)))]) hP hD [0, 1] [2, 3] rfl rfl (by decide) (by decide) hk1 hFc hP1 hD1
  generalize H1 = H at hP hS ⊢
  have hP : va_P (dC, dI) vwCl [(h1, .inr (7, [.ref h2, .ref r12, .int 0, .int 0])), (h2, .inl (g0, 58, .inl (fun _ => 0))), (h0, .inr (11, [.ref r0, .ref r1, .ref r2, .ref r3, .ref r4, .ref h1, .ref r5, .ref r6, .ref r7, .ref r8, .ref r9, .ref r10, .ref r11, .ref h3, .int 0, .int 5, .long 0])), (h3, .inl (g1, 5, .inl (upd (fun _ => 0) 0 1)))] H := hP
  have hD : va_D A [(h1, .inr (7, [.ref h2, .ref r12, .int 0, .int 0])), (h2, .inl (g0, 58, .inl (fun _ => 0))), (h0, .inr (11, [.ref r0, .ref r1, .ref r2, .ref r3, .ref r4, .ref h1, .ref r5, .ref r6, .ref r7, .ref r8, .ref r9, .ref r10, .ref r11, .ref h3, .int 0, .int 5, .long 0])), (h3, .inl (g1, 5, .inl (upd (fun _ => 0) 0 1)))] := hD
  obtain rfl : ra2 = ((-1) : Int32) := hw
  have hP9 := hP.sub (ws' := [(h1, .inr (7, [.ref h2, .ref r12, .int 0, .int 0])), (h2, .inl (g0, 58, .inl (fun _ => 0))), (h0, .inr (11, [.ref r0, .ref r1, .ref r2, .ref r3, .ref r4, .ref h1, .ref r5, .ref r6, .ref r7, .ref r8, .ref r9, .ref r10, .ref r11, .ref h3, .int 0, .int 5, .long 0])), (h3, .inl (g1, 5, .inl (upd (fun _ => 0) 0 1)))]) [0, 1, 2, 3] rfl
  have hD9 := hD.sub (ws' := [(h1, .inr (7, [.ref h2, .ref r12, .int 0, .int 0])), (h2, .inl (g0, 58, .inl (fun _ => 0))), (h0, .inr (11, [.ref r0, .ref r1, .ref r2, .ref r3, .ref r4, .ref h1, .ref r5, .ref r6, .ref r7, .ref r8, .ref r9, .ref r10, .ref r11, .ref h3, .int 0, .int 5, .long 0])), (h3, .inl (g1, 5, .inl (upd (fun _ => 0) 0 1)))]) [0, 1, 2, 3] (by decide) rfl
  have hK9 := hK.sub (tys' := [(g0, .int), (g1, .int)]) [0, 1] rfl
  exact W.iret (v := (-1)) hx hb hr (fun t ht hW => ⟨⟨(-1), (), rfl, rfl, by rw [ht]; exact hP9, va_K.moved hW.alike hK9, hD9⟩, hS.F ht⟩) hS.2.2 dX11_sell_16
def q_X11_give : List Cond := .code yX11_give cX11_give 2 (some .int) :: (([.fieldLink RX11 42 "LeftArguments" "office" "LLeftArguments$Office;", .code yX5_stands cX5_stands 1 (some .boolean), .fieldLink RX5 24 "LeftArguments$Office" "stands" "Z", .initialized RX5, .instanceMethod yX5_stands, .selects RX5 yX5_stands yX5_stands, .methodLink RX11 159 yX5_stands, .code yX11_refuse cX11_refuse 2 (some .int), .fieldLink RX11 96 "LeftArguments" "refused" "[I", .initialized RX11, .instanceMethod yX11_refuse, .selects RX11 yX11_refuse yX11_refuse, .methodLink RX11 229 yX11_refuse] : List Cond) ++ wsX110 ++ wsX50)
set_option maxRecDepth 20000 in
theorem g_X11_give_0 : GoodIn q_X11_give (wsV RX11 159 RX5 yX5_stands q_X5_stands) := goodIn_app (goodIn_r _ [7, 5, 6, 4] (by decide +kernel) (by decide +kernel)) (goodIn_ca (goodIn_r (.code yX5_stands cX5_stands 1 (some .boolean) :: [.fieldLink RX5 24 "LeftArguments$Office" "stands" "Z"]) [2, 3] (by decide +kernel) (by decide +kernel)) (goodIn_sub (fun _ h => List.mem_cons_of_mem _ (List.mem_append_right _ h)) gwX5))
set_option maxRecDepth 20000 in
theorem g_X11_give_1 : GoodIn q_X11_give (wsV RX11 229 RX11 yX11_refuse q_X11_refuse) := goodIn_app (goodIn_r _ [13, 11, 12, 10] (by decide +kernel) (by decide +kernel)) (goodIn_ca (goodIn_r (.code yX11_refuse cX11_refuse 2 (some .int) :: [.fieldLink RX11 96 "LeftArguments" "refused" "[I"]) [8, 9] (by decide +kernel) (by decide +kernel)) (goodIn_sub (fun _ h => List.mem_cons_of_mem _ (List.mem_append_left _ (List.mem_append_right _ h))) gwX11))
set_option maxHeartbeats 4000000 in
set_option maxRecDepth 100000 in
theorem k_X11_give (l : Launch) (dC : Nat → ClassId) (dI : Nat → Nat → Nat) (g0 : ClassId) (h0 h1 h2 : Nat) (r0 r1 r2 r3 r4 r5 r6 r7 r8 r9 r10 r11 r12 r13 : Nat) (v0 : Int32) (sz : Nat) : Met l yX11_give q_X11_give ({ frames := 1, cells := 0, slots := 0, locals := 21 }) (va_Pc [.ref h0, .int v0] (fun U => U.heap.size = sz ∧ va_P (dC, dI) vwCl [(h0, .inr (11, [.ref r0, .ref r1, .ref r2, .ref r3, .ref h1, .ref r4, .ref r5, .ref r6, .ref r7, .ref r8, .ref r9, .ref r10, .ref r11, .ref h2, .int 0, .int 5, .long 0])), (h1, .inr (5, [.ref r12, .ref r13, .int 0, .int 0])), (h2, .inl (g0, 5, .inl (fun _ => 0)))] U.heap ∧ va_K (dC, dI) vwCl [(g0, .int)] U ∧ va_D (fun _ => True) [(h0, .inr (11, [.ref r0, .ref r1, .ref r2, .ref r3, .ref h1, .ref r4, .ref r5, .ref r6, .ref r7, .ref r8, .ref r9, .ref r10, .ref r11, .ref h2, .int 0, .int 5, .long 0])), (h1, .inr (5, [.ref r12, .ref r13, .int 0, .int 0])), (h2, .inl (g0, 5, .inl (fun _ => 0)))])) (va_Qi (fun (r : Int32) (_ : Unit) => r = (-1)) (fun (_ : Unit) (t : State) => va_P (dC, dI) vwCl [(h1, .inr (5, [.ref r12, .ref r13, .int 0, .int 0])), (h0, .inr (11, [.ref r0, .ref r1, .ref r2, .ref r3, .ref h1, .ref r4, .ref r5, .ref r6, .ref r7, .ref r8, .ref r9, .ref r10, .ref r11, .ref h2, .int 0, .int 5, .long 0])), (h2, .inl (g0, 5, .inl (upd (fun _ => 0) 0 1)))] t.heap ∧ va_K (dC, dI) vwCl [(g0, .int)] t ∧ va_D (va_A [(h0, .inr (11, [.ref r0, .ref r1, .ref r2, .ref r3, .ref h1, .ref r4, .ref r5, .ref r6, .ref r7, .ref r8, .ref r9, .ref r10, .ref r11, .ref h2, .int 0, .int 5, .long 0])), (h1, .inr (5, [.ref r12, .ref r13, .int 0, .int 0])), (h2, .inl (g0, 5, .inl (fun _ => 0)))] sz) [(h1, .inr (5, [.ref r12, .ref r13, .int 0, .int 0])), (h0, .inr (11, [.ref r0, .ref r1, .ref r2, .ref r3, .ref h1, .ref r4, .ref r5, .ref r6, .ref r7, .ref r8, .ref r9, .ref r10, .ref r11, .ref h2, .int 0, .int 5, .long 0])), (h2, .inl (g0, 5, .inl (upd (fun _ => 0) 0 1)))]) (va_A [(h0, .inr (11, [.ref r0, .ref r1, .ref r2, .ref r3, .ref h1, .ref r4, .ref r5, .ref r6, .ref r7, .ref r8, .ref r9, .ref r10, .ref r11, .ref h2, .int 0, .int 5, .long 0])), (h1, .inr (5, [.ref r12, .ref r13, .int 0, .int 0])), (h2, .inl (g0, 5, .inl (fun _ => 0)))] sz)) 0 0 (va_A [(h0, .inr (11, [.ref r0, .ref r1, .ref r2, .ref r3, .ref h1, .ref r4, .ref r5, .ref r6, .ref r7, .ref r8, .ref r9, .ref r10, .ref r11, .ref h2, .int 0, .int 5, .long 0])), (h1, .inr (5, [.ref r12, .ref r13, .int 0, .int 0])), (h2, .inl (g0, 5, .inl (fun _ => 0)))] sz) := by
  refine Met.ofW (cc := cX11_give) (maxL := 2) (ret := (some .int)) (by decide) rfl ?_
  intro p e s m args below meth c s₁ B hml hv
  obtain ⟨rfl, hsz, hP, hK, hD0⟩ := hv
  have hx := B.exec
  have hb := B.bytes
  have hr := B.returns
  have hts := atoms_spec (ws := q_X11_give) B.pre
  have hown : s.vm.findClass RX11 = some m.cls := findClass_of_methodNamed B.named
  have hlocks := B.notSynchronized
  subst hsz
  have hD := hD0.self (sz := s.heap.size)
  generalize hAe : va_A [(h0, .inr (11, [.ref r0, .ref r1, .ref r2, .ref r3, .ref h1, .ref r4, .ref r5, .ref r6, .ref r7, .ref r8, .ref r9, .ref r10, .ref r11, .ref h2, .int 0, .int 5, .long 0])), (h1, .inr (5, [.ref r12, .ref r13, .int 0, .int 0])), (h2, .inl (g0, 5, .inl (fun _ => 0)))] s.heap.size = A at hD ⊢
  have hA : ∀ q : Nat, s.heap.size ≤ q → A q := fun q h => by rw [← hAe]; exact Or.inr h
  have hS : va_S A s.heap s.heap [] := va_S.rf
  have hl := lv_entry ([.ref h0, .int v0]) (n := 2) (Nat.le_of_ble_eq_true rfl)
  rw [lg_entry_eq]
  generalize (lg_sl ([.ref h0, .int v0]) ++ List.replicate (2 - (lg_sl ([.ref h0, .int v0])).length) Slot.unset).toArray = ls at hl ⊢
  have hl : lv_has ls 2 [(0, .ref h0), (1, .int v0)] := hl
  refine lv_aload_n hx hb dX11_give_0 rfl (lv_at hl 0 rfl) ?_
  refine va_get (D := (dC, dI)) (ci := 11) (v := .ref h1) (C := RX11) (T := TX11) (N := 17) hx hb hts (fun _ h => List.mem_cons_of_mem _ (List.mem_append_left _ (List.mem_append_right _ h))) hown hK hP 0 rfl rfl 4 (by decide) (hts (.fieldLink RX11 42 "LeftArguments" "office" "LLeftArguments$Office;") (List.mem_cons_of_mem _ (List.mem_append_left _ (List.mem_append_left _ (List.mem_of_getElem? (i := 0) rfl))))) (fun _ h9 => h9) rfl dX11_give_1 ?_
  have hPc := hP.sub (ws' := [(h1, .inr (5, [.ref r12, .ref r13, .int 0, .int 0]))]) [1] rfl
  have hDc := hD.sub (ws' := [(h1, .inr (5, [.ref r12, .ref r13, .int 0, .int 0]))]) [1] (by decide) rfl
  have hKc := hK.sub (tys' := []) [] rfl
  have hFc := va_free (wc := [(h1, .inr (5, [.ref r12, .ref r13, .int 0, .int 0]))]) hD hS hA [1] rfl
  refine va_calli (va_runV (As := []) (rest := []) ⟨hx, hb, hml, hown, hts⟩ (k_X5_stands l dC dI h1 r12 r13  s.heap.size) (cwV 0 hts g_X11_give_0 rfl rfl rfl (by decide +kernel) ⟨Nat.le_of_ble_eq_true rfl, Nat.le_of_ble_eq_true rfl⟩) ⟨fun a U g mk q => by obtain ⟨q0, q1, qP, qK, qD⟩ := q; exact ⟨q0, q1, qP, va_K.moved (u := U) (U := U.calling g mk a) (Vm.Alike.refl U.vm) qK, qD⟩, va_recv hKc hPc (ci := 5) (q0 := 0) rfl rfl, fun U hU hW => ⟨rfl, by rw [hU], by rw [hU]; exact hPc, va_K.moved hW.alike hKc, hDc.weaken (fun _ _ _ _ => trivial)⟩⟩ rfl rfl hl.1 rfl (lv_room (Nat.le_of_ble_eq_true rfl)) dX11_give_4 ⟨Nat.le_of_ble_eq_true rfl, Nat.le_of_ble_eq_true rfl⟩) hS (fun q _ h => hFc q h) hFc (fun ra1 u t H1 locs ht hvm hw hB hz1 hk1 hS => ?_)
  obtain ⟨hP1, hK1, hD1⟩ := hB
  rw [ht] at hP1
  obtain ⟨hP, hD⟩ := va_join (wr := [(h0, .inr (11, [.ref r0, .ref r1, .ref r2, .ref r3, .ref h1, .ref r4, .ref r5, .ref r6, .ref r7, .ref r8, .ref r9, .ref r10, .ref r11, .ref h2, .int 0, .int 5, .long 0])), (h2, .inl (g0, 5, .inl (fun _ => 0)))]) (w1 := [(h1, .inr (5, [.ref r12, .ref r13, .int 0, .int 0]))]) hP hD [1] [0, 2] rfl rfl (by decide) (by decide) hk1 hFc hP1 hD1
  generalize H1 = H at hP hS ⊢
  have hP : va_P (dC, dI) vwCl [(h0, .inr (11, [.ref r0, .ref r1, .ref r2, .ref r3, .ref h1, .ref r4, .ref r5, .ref r6, .ref r7, .ref r8, .ref r9, .ref r10, .ref r11, .ref h2, .int 0, .int 5, .long 0])), (h2, .inl (g0, 5, .inl (fun _ => 0))), (h1, .inr (5, [.ref r12, .ref r13, .int 0, .int 0]))] H := hP
  have hD : va_D A [(h0, .inr (11, [.ref r0, .ref r1, .ref r2, .ref r3, .ref h1, .ref r4, .ref r5, .ref r6, .ref r7, .ref r8, .ref r9, .ref r10, .ref r11, .ref h2, .int 0, .int 5, .long 0])), (h2, .inl (g0, 5, .inl (fun _ => 0))), (h1, .inr (5, [.ref r12, .ref r13, .int 0, .int 0]))] := hD
  obtain rfl : ra1 = (0 : Int32) := hw
  refine lv_if_ne (tgt := 16) hx hb dX11_give_7 (by decide) (fun c => absurd (by decide) c) (fun _ => ?_)
  refine lv_aload_n hx hb dX11_give_10 rfl (lv_at hl 0 rfl) ?_
  refine lv_iconst (v := 0) hx hb dX11_give_11 (by decide) ?_
  have hPc := hP.sub (ws' := [(h0, .inr (11, [.ref r0, .ref r1, .ref r2, .ref r3, .ref h1, .ref r4, .ref r5, .ref r6, .ref r7, .ref r8, .ref r9, .ref r10, .ref r11, .ref h2, .int 0, .int 5, .long 0])), (h2, .inl (g0, 5, .inl (fun _ => 0)))]) [0, 1] rfl
  have hDc := hD.sub (ws' := [(h0, .inr (11, [.ref r0, .ref r1, .ref r2, .ref r3, .ref h1, .ref r4, .ref r5, .ref r6, .ref r7, .ref r8, .ref r9, .ref r10, .ref r11, .ref h2, .int 0, .int 5, .long 0])), (h2, .inl (g0, 5, .inl (fun _ => 0)))]) [0, 1] (by decide) rfl
  have hKc := hK.sub (tys' := [(g0, .int)]) [0] rfl
  have hFc := va_free (wc := [(h0, .inr (11, [.ref r0, .ref r1, .ref r2, .ref r3, .ref h1, .ref r4, .ref r5, .ref r6, .ref r7, .ref r8, .ref r9, .ref r10, .ref r11, .ref h2, .int 0, .int 5, .long 0])), (h2, .inl (g0, 5, .inl (fun _ => 0)))]) hD hS hA [0, 1] rfl
  refine va_calli (va_runV (As := [.int 0]) (rest := []) ⟨hx, hb, hml, hown, hts⟩ (k_X11_refuse l dC dI g0 h0 h2 r0 r1 r2 r3 h1 r4 r5 r6 r7 r8 r9 r10 r11  H.size) (cwV 1 hts g_X11_give_1 rfl rfl rfl (by decide +kernel) ⟨Nat.le_of_ble_eq_true rfl, Nat.le_of_ble_eq_true rfl⟩) ⟨fun a U g mk q => by obtain ⟨q0, q1, qP, qK, qD⟩ := q; exact ⟨q0, q1, qP, va_K.moved (u := U) (U := U.calling g mk a) (Vm.Alike.refl U.vm) qK, qD⟩, va_recv hKc hPc (ci := 11) (q0 := 0) rfl rfl, fun U hU hW => ⟨rfl, by rw [hU], by rw [hU]; exact hPc, va_K.moved hW.alike hKc, hDc.weaken (fun _ _ _ _ => trivial)⟩⟩ rfl rfl hl.1 rfl (lv_room (Nat.le_of_ble_eq_true rfl)) dX11_give_12 ⟨Nat.le_of_ble_eq_true rfl, Nat.le_of_ble_eq_true rfl⟩) hS (fun q _ h => hFc q h) hFc (fun ra2 u t H1 locs ht hvm hw hB hz1 hk1 hS => ?_)
  obtain ⟨hP1, hK1, hD1⟩ := hB
  rw [ht] at hP1
  obtain ⟨hP, hD⟩ := va_join (wr := [(h1, .inr (5, [.ref r12, .ref r13, .int 0, .int 0]))]) (w1 := [(h0, .inr (11, [.ref r0, .ref r1, .ref r2, .ref r3, .ref h1, .ref r4, .ref r5, .ref r6, .ref r7, .ref r8, .ref r9, .ref r10, .ref r11, .ref h2, .int 0, .int 5, .long 0])), (h2, .inl (g0, 5, .inl (upd (fun _ => 0) 0 1)))]) hP hD [0, 1] [2] rfl rfl (by decide) (by decide) hk1 hFc hP1 hD1
  generalize H1 = H at hP hS ⊢
  have hP : va_P (dC, dI) vwCl [(h1, .inr (5, [.ref r12, .ref r13, .int 0, .int 0])), (h0, .inr (11, [.ref r0, .ref r1, .ref r2, .ref r3, .ref h1, .ref r4, .ref r5, .ref r6, .ref r7, .ref r8, .ref r9, .ref r10, .ref r11, .ref h2, .int 0, .int 5, .long 0])), (h2, .inl (g0, 5, .inl (upd (fun _ => 0) 0 1)))] H := hP
  have hD : va_D A [(h1, .inr (5, [.ref r12, .ref r13, .int 0, .int 0])), (h0, .inr (11, [.ref r0, .ref r1, .ref r2, .ref r3, .ref h1, .ref r4, .ref r5, .ref r6, .ref r7, .ref r8, .ref r9, .ref r10, .ref r11, .ref h2, .int 0, .int 5, .long 0])), (h2, .inl (g0, 5, .inl (upd (fun _ => 0) 0 1)))] := hD
  obtain rfl : ra2 = ((-1) : Int32) := hw
  have hP9 := hP.sub (ws' := [(h1, .inr (5, [.ref r12, .ref r13, .int 0, .int 0])), (h0, .inr (11, [.ref r0, .ref r1, .ref r2, .ref r3, .ref h1, .ref r4, .ref r5, .ref r6, .ref r7, .ref r8, .ref r9, .ref r10, .ref r11, .ref h2, .int 0, .int 5, .long 0])), (h2, .inl (g0, 5, .inl (upd (fun _ => 0) 0 1)))]) [0, 1, 2] rfl
  have hD9 := hD.sub (ws' := [(h1, .inr (5, [.ref r12, .ref r13, .int 0, .int 0])), (h0, .inr (11, [.ref r0, .ref r1, .ref r2, .ref r3, .ref h1, .ref r4, .ref r5, .ref r6, .ref r7, .ref r8, .ref r9, .ref r10, .ref r11, .ref h2, .int 0, .int 5, .long 0])), (h2, .inl (g0, 5, .inl (upd (fun _ => 0) 0 1)))]) [0, 1, 2] (by decide) rfl
  have hK9 := hK.sub (tys' := [(g0, .int)]) [0] rfl
  exact W.iret (v := (-1)) hx hb hr (fun t ht hW => ⟨⟨(-1), (), rfl, rfl, by rw [ht]; exact hP9, va_K.moved hW.alike hK9, hD9⟩, hS.F ht⟩) hS.2.2 dX11_give_15
def q_X11_within : List Cond := .code yX11_within cX11_within 3 (some .boolean) :: (([] : List Cond))
set_option maxHeartbeats 4000000 in
set_option maxRecDepth 100000 in
theorem k_X11_within (l : Launch) (dC : Nat → ClassId) (dI : Nat → Nat → Nat) (v0 : Int32) (sz : Nat) : Met l yX11_within q_X11_within ({ frames := 0, cells := 0, slots := 0, locals := 0 }) (va_Pc [.int v0, .int 0, .int 9] (fun U => U.heap.size = sz ∧ va_P (dC, dI) vwCl [] U.heap ∧ va_K (dC, dI) vwCl [] U ∧ va_D (fun _ => True) [])) (va_Qi (fun (r : Int32) (_ : Unit) => r = (if v0 < 0 then 0 else (if 9 < v0 then 0 else 1))) (fun (_ : Unit) (t : State) => va_P (dC, dI) vwCl [] t.heap ∧ va_K (dC, dI) vwCl [] t ∧ va_D (va_A [] sz) []) (va_A [] sz)) 0 0 (va_A [] sz) := by
  refine Met.ofW (cc := cX11_within) (maxL := 3) (ret := (some .boolean)) (by decide) rfl ?_
  intro p e s m args below meth c s₁ B hml hv
  obtain ⟨rfl, hsz, hP, hK, hD0⟩ := hv
  have hx := B.exec
  have hb := B.bytes
  have hr := B.returns
  have hts := atoms_spec (ws := q_X11_within) B.pre
  have hown : s.vm.findClass RX11 = some m.cls := findClass_of_methodNamed B.named
  have hlocks := B.notSynchronized
  subst hsz
  have hD := hD0.self (sz := s.heap.size)
  generalize hAe : va_A [] s.heap.size = A at hD ⊢
  have hA : ∀ q : Nat, s.heap.size ≤ q → A q := fun q h => by rw [← hAe]; exact Or.inr h
  have hS : va_S A s.heap s.heap [] := va_S.rf
  have hl := lv_entry ([.int v0, .int 0, .int 9]) (n := 3) (Nat.le_of_ble_eq_true rfl)
  rw [lg_entry_eq]
  generalize (lg_sl ([.int v0, .int 0, .int 9]) ++ List.replicate (3 - (lg_sl ([.int v0, .int 0, .int 9])).length) Slot.unset).toArray = ls at hl ⊢
  have hl : lv_has ls 3 [(0, .int v0), (1, .int 0), (2, .int 9)] := hl
  refine lv_iload_n hx hb dX11_within_0 rfl (lv_at hl 0 rfl) ?_
  refine lv_iload_n hx hb dX11_within_1 rfl (lv_at hl 1 rfl) ?_
  refine lv_icmp_lt (tgt := 14) hx hb dX11_within_2 (by decide) (fun c1 => ?_) (fun c1 => ?_)
  · skip
    refine lv_iconst (v := 0) hx hb dX11_within_14 (by decide) ?_
    have hP9 := hP.sub (ws' := []) [] rfl
    have hD9 := hD.sub (ws' := []) [] (by decide) rfl
    have hK9 := hK.sub (tys' := []) [] rfl
    exact W.zret (v := 0) hx hb hr rfl (fun t ht hW => ⟨⟨0, (), rfl, by rw [if_pos c1], by rw [ht]; exact hP9, va_K.moved hW.alike hK9, hD9⟩, hS.F ht⟩) hS.2.2 dX11_within_15
  · skip
    refine lv_iload_n hx hb dX11_within_5 rfl (lv_at hl 0 rfl) ?_
    refine lv_iload_n hx hb dX11_within_6 rfl (lv_at hl 2 rfl) ?_
    refine lv_icmp_gt (tgt := 14) hx hb dX11_within_7 (by decide) (fun c2 => ?_) (fun c2 => ?_)
    · skip
      refine lv_iconst (v := 0) hx hb dX11_within_14 (by decide) ?_
      have hP9 := hP.sub (ws' := []) [] rfl
      have hD9 := hD.sub (ws' := []) [] (by decide) rfl
      have hK9 := hK.sub (tys' := []) [] rfl
      exact W.zret (v := 0) hx hb hr rfl (fun t ht hW => ⟨⟨0, (), rfl, by rw [if_neg c1, if_pos c2], by rw [ht]; exact hP9, va_K.moved hW.alike hK9, hD9⟩, hS.F ht⟩) hS.2.2 dX11_within_15
    · skip
      refine lv_iconst (v := 1) hx hb dX11_within_10 (by decide) ?_
      refine lv_goto (tgt := 15) hx hb dX11_within_11 (by decide) ?_
      have hP9 := hP.sub (ws' := []) [] rfl
      have hD9 := hD.sub (ws' := []) [] (by decide) rfl
      have hK9 := hK.sub (tys' := []) [] rfl
      exact W.zret (v := 1) hx hb hr rfl (fun t ht hW => ⟨⟨1, (), rfl, by rw [if_neg c1, if_neg c2], by rw [ht]; exact hP9, va_K.moved hW.alike hK9, hD9⟩, hS.F ht⟩) hS.2.2 dX11_within_15
def q_X11_trains : List Cond := .code yX11_trains cX11_trains 2 (some .boolean) :: (([.code yX11_within cX11_within 3 (some .boolean), .initialized RX11, .static yX11_within, .methodLink RX11 239 yX11_within, .fieldLink RX11 104 "LeftArguments" "trainOdds" "I"] : List Cond) ++ wsX110)
set_option maxRecDepth 20000 in
theorem g_X11_trains_0 : GoodIn q_X11_trains (va_wsS RX11 239 yX11_within q_X11_within) := goodIn_app (goodIn_r _ [4, 3, 2] (by decide +kernel) (by decide +kernel)) (goodIn_r (.code yX11_within cX11_within 3 (some .boolean) :: []) [1] (by decide +kernel) (by decide +kernel))
set_option maxHeartbeats 4000000 in
set_option maxRecDepth 100000 in
theorem k_X11_trains (l : Launch) (dC : Nat → ClassId) (dI : Nat → Nat → Nat) (h0 : Nat) (r0 r1 r2 r3 r4 r5 r6 r7 r8 r9 r10 r11 r12 r13 : Nat) (v0 : Int32) (sz : Nat) : Met l yX11_trains q_X11_trains ({ frames := 1, cells := 0, slots := 0, locals := 22 }) (va_Pc [.ref h0, .int v0] (fun U => U.heap.size = sz ∧ va_P (dC, dI) vwCl [(h0, .inr (11, [.ref r0, .ref r1, .ref r2, .ref r3, .ref r4, .ref r5, .ref r6, .ref r7, .ref r8, .ref r9, .ref r10, .ref r11, .ref r12, .ref r13, .int 0, .int 5, .long 0]))] U.heap ∧ va_K (dC, dI) vwCl [] U ∧ va_D (fun _ => True) [(h0, .inr (11, [.ref r0, .ref r1, .ref r2, .ref r3, .ref r4, .ref r5, .ref r6, .ref r7, .ref r8, .ref r9, .ref r10, .ref r11, .ref r12, .ref r13, .int 0, .int 5, .long 0]))])) (va_Qi (fun (r : Int32) (_ : Unit) => r = (if v0 < 0 then 0 else (if 9 < v0 then 0 else (if v0 = 5 then 0 else 1)))) (fun (_ : Unit) (t : State) => va_P (dC, dI) vwCl [] t.heap ∧ va_K (dC, dI) vwCl [] t ∧ va_D (va_A [(h0, .inr (11, [.ref r0, .ref r1, .ref r2, .ref r3, .ref r4, .ref r5, .ref r6, .ref r7, .ref r8, .ref r9, .ref r10, .ref r11, .ref r12, .ref r13, .int 0, .int 5, .long 0]))] sz) []) (va_A [(h0, .inr (11, [.ref r0, .ref r1, .ref r2, .ref r3, .ref r4, .ref r5, .ref r6, .ref r7, .ref r8, .ref r9, .ref r10, .ref r11, .ref r12, .ref r13, .int 0, .int 5, .long 0]))] sz)) 0 0 (va_A [(h0, .inr (11, [.ref r0, .ref r1, .ref r2, .ref r3, .ref r4, .ref r5, .ref r6, .ref r7, .ref r8, .ref r9, .ref r10, .ref r11, .ref r12, .ref r13, .int 0, .int 5, .long 0]))] sz) := by
  refine Met.ofW (cc := cX11_trains) (maxL := 2) (ret := (some .boolean)) (by decide) rfl ?_
  intro p e s m args below meth c s₁ B hml hv
  obtain ⟨rfl, hsz, hP, hK, hD0⟩ := hv
  have hx := B.exec
  have hb := B.bytes
  have hr := B.returns
  have hts := atoms_spec (ws := q_X11_trains) B.pre
  have hown : s.vm.findClass RX11 = some m.cls := findClass_of_methodNamed B.named
  have hlocks := B.notSynchronized
  subst hsz
  have hD := hD0.self (sz := s.heap.size)
  generalize hAe : va_A [(h0, .inr (11, [.ref r0, .ref r1, .ref r2, .ref r3, .ref r4, .ref r5, .ref r6, .ref r7, .ref r8, .ref r9, .ref r10, .ref r11, .ref r12, .ref r13, .int 0, .int 5, .long 0]))] s.heap.size = A at hD ⊢
  have hA : ∀ q : Nat, s.heap.size ≤ q → A q := fun q h => by rw [← hAe]; exact Or.inr h
  have hS : va_S A s.heap s.heap [] := va_S.rf
  have hl := lv_entry ([.ref h0, .int v0]) (n := 2) (Nat.le_of_ble_eq_true rfl)
  rw [lg_entry_eq]
  generalize (lg_sl ([.ref h0, .int v0]) ++ List.replicate (2 - (lg_sl ([.ref h0, .int v0])).length) Slot.unset).toArray = ls at hl ⊢
  have hl : lv_has ls 2 [(0, .ref h0), (1, .int v0)] := hl
  refine lv_iload_n hx hb dX11_trains_0 rfl (lv_at hl 1 rfl) ?_
  refine lv_iconst (v := 0) hx hb dX11_trains_1 (by decide) ?_
  refine lv_bipush (v := 9) hx hb dX11_trains_2 (by decide) ?_
  have hPc := hP.sub (ws' := []) [] rfl
  have hDc := hD.sub (ws' := []) [] (by decide) rfl
  have hKc := hK.sub (tys' := []) [] rfl
  have hFc := va_free (wc := []) hD hS hA [] rfl
  refine va_calli (va_runS (As := [.int v0, .int 0, .int 9]) (rest := []) ⟨hx, hb, hml, hown, hts⟩ (k_X11_within l dC dI v0  s.heap.size) (va_cwS 3 hts g_X11_trains_0 rfl rfl rfl (by decide +kernel) ⟨Nat.le_of_ble_eq_true rfl, Nat.le_of_ble_eq_true rfl⟩) ⟨fun a U g mk q => by obtain ⟨q0, q1, qP, qK, qD⟩ := q; exact ⟨q0, q1, qP, va_K.moved (u := U) (U := U.calling g mk a) (Vm.Alike.refl U.vm) qK, qD⟩, fun U hU hW => ⟨rfl, by rw [hU], by rw [hU]; exact hPc, va_K.moved hW.alike hKc, hDc.weaken (fun _ _ _ _ => trivial)⟩⟩ rfl rfl hl.1 rfl (lv_room (Nat.le_of_ble_eq_true rfl)) dX11_trains_4 ⟨Nat.le_of_ble_eq_true rfl, Nat.le_of_ble_eq_true rfl⟩) hS (fun q _ h => hFc q h) hFc (fun ra1 u t H1 locs ht hvm hw hB hz1 hk1 hS => ?_)
  obtain ⟨hP1, hK1, hD1⟩ := hB
  rw [ht] at hP1
  obtain ⟨hP, hD⟩ := va_join (wr := [(h0, .inr (11, [.ref r0, .ref r1, .ref r2, .ref r3, .ref r4, .ref r5, .ref r6, .ref r7, .ref r8, .ref r9, .ref r10, .ref r11, .ref r12, .ref r13, .int 0, .int 5, .long 0]))]) (w1 := []) hP hD [] [0] rfl rfl (by decide) (by decide) hk1 hFc hP1 hD1
  generalize H1 = H at hP hS ⊢
  have hP : va_P (dC, dI) vwCl [(h0, .inr (11, [.ref r0, .ref r1, .ref r2, .ref r3, .ref r4, .ref r5, .ref r6, .ref r7, .ref r8, .ref r9, .ref r10, .ref r11, .ref r12, .ref r13, .int 0, .int 5, .long 0]))] H := hP
  have hD : va_D A [(h0, .inr (11, [.ref r0, .ref r1, .ref r2, .ref r3, .ref r4, .ref r5, .ref r6, .ref r7, .ref r8, .ref r9, .ref r10, .ref r11, .ref r12, .ref r13, .int 0, .int 5, .long 0]))] := hD
  have hw : ra1 = (if v0 < 0 then 0 else (if 9 < v0 then 0 else 1)) := hw
  by_cases c2 : v0 < 0
  · skip
    rw [if_pos c2] at hw
    have hw : ra1 = 0 := hw
    obtain rfl : ra1 = (0 : Int32) := hw
    refine lv_if_eq (tgt := 18) hx hb dX11_trains_7 (by decide) (fun _ => ?_) (fun c => absurd (by decide) c)
    refine lv_iconst (v := 0) hx hb dX11_trains_18 (by decide) ?_
    have hP9 := hP.sub (ws' := []) [] rfl
    have hD9 := hD.sub (ws' := []) [] (by decide) rfl
    have hK9 := hK.sub (tys' := []) [] rfl
    exact W.zret (v := 0) hx hb hr rfl (fun t ht hW => ⟨⟨0, (), rfl, by rw [if_pos c2], by rw [ht]; exact hP9, va_K.moved hW.alike hK9, hD9⟩, hS.F ht⟩) hS.2.2 dX11_trains_19
  · skip
    rw [if_neg c2] at hw
    have hw : ra1 = (if 9 < v0 then 0 else 1) := hw
    by_cases c3 : 9 < v0
    · skip
      rw [if_pos c3] at hw
      have hw : ra1 = 0 := hw
      obtain rfl : ra1 = (0 : Int32) := hw
      refine lv_if_eq (tgt := 18) hx hb dX11_trains_7 (by decide) (fun _ => ?_) (fun c => absurd (by decide) c)
      refine lv_iconst (v := 0) hx hb dX11_trains_18 (by decide) ?_
      have hP9 := hP.sub (ws' := []) [] rfl
      have hD9 := hD.sub (ws' := []) [] (by decide) rfl
      have hK9 := hK.sub (tys' := []) [] rfl
      exact W.zret (v := 0) hx hb hr rfl (fun t ht hW => ⟨⟨0, (), rfl, by rw [if_neg c2, if_pos c3], by rw [ht]; exact hP9, va_K.moved hW.alike hK9, hD9⟩, hS.F ht⟩) hS.2.2 dX11_trains_19
    · skip
      rw [if_neg c3] at hw
      have hw : ra1 = 1 := hw
      obtain rfl : ra1 = (1 : Int32) := hw
      refine lv_if_eq (tgt := 18) hx hb dX11_trains_7 (by decide) (fun c => absurd c (by decide)) (fun _ => ?_)
      refine lv_iload_n hx hb dX11_trains_10 rfl (lv_at hl 1 rfl) ?_
      refine lv_aload_n hx hb dX11_trains_11 rfl (lv_at hl 0 rfl) ?_
      refine va_get (D := (dC, dI)) (ci := 11) (v := .int 5) (C := RX11) (T := TX11) (N := 17) hx hb hts (fun _ h => List.mem_cons_of_mem _ (List.mem_append_right _ h)) hown hK hP 0 rfl rfl 15 (by decide) (hts (.fieldLink RX11 104 "LeftArguments" "trainOdds" "I") (List.mem_cons_of_mem _ (List.mem_append_left _ (List.mem_of_getElem? (i := 4) rfl)))) (fun _ h9 => h9) rfl dX11_trains_12 ?_
      refine lv_icmp_ne (tgt := 20) hx hb dX11_trains_15 (by decide) (fun c4 => ?_) (fun c4 => ?_)
      · skip
        refine lv_aload_n hx hb dX11_trains_20 rfl (lv_at hl 0 rfl) ?_
        refine lv_iload_n hx hb dX11_trains_21 rfl (lv_at hl 1 rfl) ?_
        refine va_put (D := (dC, dI)) (ci := 11) (v := .int v0) (ty := .int) (C := RX11) (T := TX11) (N := 17) hx hb hts (fun _ h => List.mem_cons_of_mem _ (List.mem_append_right _ h)) tyX11 tyX11_ok nmX11 hown hK hP hD hS 0 rfl rfl 15 (by decide) (hts (.fieldLink RX11 104 "LeftArguments" "trainOdds" "I") (List.mem_cons_of_mem _ (List.mem_append_left _ (List.mem_of_getElem? (i := 4) rfl)))) (fun _ h9 => h9) rfl (by decide +kernel) rfl rfl (Nat.le_of_ble_eq_true rfl) dX11_trains_22 (fun H locs hP hD hS => ?_)
        have hP : va_P (dC, dI) vwCl [(h0, .inr (11, [.ref r0, .ref r1, .ref r2, .ref r3, .ref r4, .ref r5, .ref r6, .ref r7, .ref r8, .ref r9, .ref r10, .ref r11, .ref r12, .ref r13, .int 0, .int v0, .long 0]))] H := hP
        have hD : va_D A [(h0, .inr (11, [.ref r0, .ref r1, .ref r2, .ref r3, .ref r4, .ref r5, .ref r6, .ref r7, .ref r8, .ref r9, .ref r10, .ref r11, .ref r12, .ref r13, .int 0, .int v0, .long 0]))] := hD
        refine lv_iconst (v := 1) hx hb dX11_trains_25 (by decide) ?_
        have hP9 := hP.sub (ws' := []) [] rfl
        have hD9 := hD.sub (ws' := []) [] (by decide) rfl
        have hK9 := hK.sub (tys' := []) [] rfl
        exact W.zret (v := 1) hx hb hr rfl (fun t ht hW => ⟨⟨1, (), rfl, by rw [if_neg c2, if_neg c3, if_neg c4], by rw [ht]; exact hP9, va_K.moved hW.alike hK9, hD9⟩, hS.F ht⟩) hS.2.2 dX11_trains_26
      · skip
        refine lv_iconst (v := 0) hx hb dX11_trains_18 (by decide) ?_
        have hP9 := hP.sub (ws' := []) [] rfl
        have hD9 := hD.sub (ws' := []) [] (by decide) rfl
        have hK9 := hK.sub (tys' := []) [] rfl
        exact W.zret (v := 0) hx hb hr rfl (fun t ht hW => ⟨⟨0, (), rfl, by rw [if_neg c2, if_neg c3, if_pos c4], by rw [ht]; exact hP9, va_K.moved hW.alike hK9, hD9⟩, hS.F ht⟩) hS.2.2 dX11_trains_19
def q_X11_years : List Cond := .code yX11_years cX11_years 5 (some .int) :: (([.fieldLink RX11 42 "LeftArguments" "office" "LLeftArguments$Office;", .code yX5_stands cX5_stands 1 (some .boolean), .fieldLink RX5 24 "LeftArguments$Office" "stands" "Z", .initialized RX5, .instanceMethod yX5_stands, .selects RX5 yX5_stands yX5_stands, .methodLink RX11 159 yX5_stands] : List Cond) ++ wsX110 ++ wsX50)
set_option maxRecDepth 20000 in
theorem g_X11_years_0 : GoodIn q_X11_years (wsV RX11 159 RX5 yX5_stands q_X5_stands) := goodIn_app (goodIn_r _ [7, 5, 6, 4] (by decide +kernel) (by decide +kernel)) (goodIn_ca (goodIn_r (.code yX5_stands cX5_stands 1 (some .boolean) :: [.fieldLink RX5 24 "LeftArguments$Office" "stands" "Z"]) [2, 3] (by decide +kernel) (by decide +kernel)) (goodIn_sub (fun _ h => List.mem_cons_of_mem _ (List.mem_append_right _ h)) gwX5))
set_option maxHeartbeats 4000000 in
set_option maxRecDepth 100000 in
theorem k_X11_years (l : Launch) (dC : Nat → ClassId) (dI : Nat → Nat → Nat) (h0 h1 : Nat) (r0 r1 r2 r3 r4 r5 r6 r7 r8 r9 r10 r11 r12 r13 r14 : Nat) (v0 : Int32) (w0 : Int64) (sz : Nat) : Met l yX11_years q_X11_years ({ frames := 1, cells := 0, slots := 0, locals := 20 }) (va_Pc [.ref h0, .int v0, .long w0] (fun U => U.heap.size = sz ∧ va_P (dC, dI) vwCl [(h0, .inr (11, [.ref r0, .ref r1, .ref r2, .ref r3, .ref h1, .ref r4, .ref r5, .ref r6, .ref r7, .ref r8, .ref r9, .ref r10, .ref r11, .ref r12, .int 0, .int 5, .long 0])), (h1, .inr (5, [.ref r13, .ref r14, .int 0, .int 0]))] U.heap ∧ va_K (dC, dI) vwCl [] U ∧ va_D (fun _ => True) [(h0, .inr (11, [.ref r0, .ref r1, .ref r2, .ref r3, .ref h1, .ref r4, .ref r5, .ref r6, .ref r7, .ref r8, .ref r9, .ref r10, .ref r11, .ref r12, .int 0, .int 5, .long 0])), (h1, .inr (5, [.ref r13, .ref r14, .int 0, .int 0]))])) (va_Qi (fun (r : Int32) (_ : Unit) => r = (-1)) (fun (_ : Unit) (t : State) => va_P (dC, dI) vwCl [(h0, .inr (11, [.ref r0, .ref r1, .ref r2, .ref r3, .ref h1, .ref r4, .ref r5, .ref r6, .ref r7, .ref r8, .ref r9, .ref r10, .ref r11, .ref r12, .int 0, .int 5, .long 0])), (h1, .inr (5, [.ref r13, .ref r14, .int 0, .int 0]))] t.heap ∧ va_K (dC, dI) vwCl [] t ∧ va_D (va_A [(h0, .inr (11, [.ref r0, .ref r1, .ref r2, .ref r3, .ref h1, .ref r4, .ref r5, .ref r6, .ref r7, .ref r8, .ref r9, .ref r10, .ref r11, .ref r12, .int 0, .int 5, .long 0])), (h1, .inr (5, [.ref r13, .ref r14, .int 0, .int 0]))] sz) [(h0, .inr (11, [.ref r0, .ref r1, .ref r2, .ref r3, .ref h1, .ref r4, .ref r5, .ref r6, .ref r7, .ref r8, .ref r9, .ref r10, .ref r11, .ref r12, .int 0, .int 5, .long 0])), (h1, .inr (5, [.ref r13, .ref r14, .int 0, .int 0]))]) (va_A [(h0, .inr (11, [.ref r0, .ref r1, .ref r2, .ref r3, .ref h1, .ref r4, .ref r5, .ref r6, .ref r7, .ref r8, .ref r9, .ref r10, .ref r11, .ref r12, .int 0, .int 5, .long 0])), (h1, .inr (5, [.ref r13, .ref r14, .int 0, .int 0]))] sz)) 0 0 (va_A [(h0, .inr (11, [.ref r0, .ref r1, .ref r2, .ref r3, .ref h1, .ref r4, .ref r5, .ref r6, .ref r7, .ref r8, .ref r9, .ref r10, .ref r11, .ref r12, .int 0, .int 5, .long 0])), (h1, .inr (5, [.ref r13, .ref r14, .int 0, .int 0]))] sz) := by
  refine Met.ofW (cc := cX11_years) (maxL := 5) (ret := (some .int)) (by decide) rfl ?_
  intro p e s m args below meth c s₁ B hml hv
  obtain ⟨rfl, hsz, hP, hK, hD0⟩ := hv
  have hx := B.exec
  have hb := B.bytes
  have hr := B.returns
  have hts := atoms_spec (ws := q_X11_years) B.pre
  have hown : s.vm.findClass RX11 = some m.cls := findClass_of_methodNamed B.named
  have hlocks := B.notSynchronized
  subst hsz
  have hD := hD0.self (sz := s.heap.size)
  generalize hAe : va_A [(h0, .inr (11, [.ref r0, .ref r1, .ref r2, .ref r3, .ref h1, .ref r4, .ref r5, .ref r6, .ref r7, .ref r8, .ref r9, .ref r10, .ref r11, .ref r12, .int 0, .int 5, .long 0])), (h1, .inr (5, [.ref r13, .ref r14, .int 0, .int 0]))] s.heap.size = A at hD ⊢
  have hA : ∀ q : Nat, s.heap.size ≤ q → A q := fun q h => by rw [← hAe]; exact Or.inr h
  have hS : va_S A s.heap s.heap [] := va_S.rf
  have hl := lv_entry ([.ref h0, .int v0, .long w0]) (n := 5) (Nat.le_of_ble_eq_true rfl)
  rw [lg_entry_eq]
  generalize (lg_sl ([.ref h0, .int v0, .long w0]) ++ List.replicate (5 - (lg_sl ([.ref h0, .int v0, .long w0])).length) Slot.unset).toArray = ls at hl ⊢
  have hl : lv_has ls 5 [(0, .ref h0), (1, .int v0), (2, .long w0)] := hl
  refine lv_aload_n hx hb dX11_years_0 rfl (lv_at hl 0 rfl) ?_
  refine va_get (D := (dC, dI)) (ci := 11) (v := .ref h1) (C := RX11) (T := TX11) (N := 17) hx hb hts (fun _ h => List.mem_cons_of_mem _ (List.mem_append_left _ (List.mem_append_right _ h))) hown hK hP 0 rfl rfl 4 (by decide) (hts (.fieldLink RX11 42 "LeftArguments" "office" "LLeftArguments$Office;") (List.mem_cons_of_mem _ (List.mem_append_left _ (List.mem_append_left _ (List.mem_of_getElem? (i := 0) rfl))))) (fun _ h9 => h9) rfl dX11_years_1 ?_
  have hPc := hP.sub (ws' := [(h1, .inr (5, [.ref r13, .ref r14, .int 0, .int 0]))]) [1] rfl
  have hDc := hD.sub (ws' := [(h1, .inr (5, [.ref r13, .ref r14, .int 0, .int 0]))]) [1] (by decide) rfl
  have hKc := hK.sub (tys' := []) [] rfl
  have hFc := va_free (wc := [(h1, .inr (5, [.ref r13, .ref r14, .int 0, .int 0]))]) hD hS hA [1] rfl
  refine va_calli (va_runV (As := []) (rest := []) ⟨hx, hb, hml, hown, hts⟩ (k_X5_stands l dC dI h1 r13 r14  s.heap.size) (cwV 0 hts g_X11_years_0 rfl rfl rfl (by decide +kernel) ⟨Nat.le_of_ble_eq_true rfl, Nat.le_of_ble_eq_true rfl⟩) ⟨fun a U g mk q => by obtain ⟨q0, q1, qP, qK, qD⟩ := q; exact ⟨q0, q1, qP, va_K.moved (u := U) (U := U.calling g mk a) (Vm.Alike.refl U.vm) qK, qD⟩, va_recv hKc hPc (ci := 5) (q0 := 0) rfl rfl, fun U hU hW => ⟨rfl, by rw [hU], by rw [hU]; exact hPc, va_K.moved hW.alike hKc, hDc.weaken (fun _ _ _ _ => trivial)⟩⟩ rfl rfl hl.1 rfl (lv_room (Nat.le_of_ble_eq_true rfl)) dX11_years_4 ⟨Nat.le_of_ble_eq_true rfl, Nat.le_of_ble_eq_true rfl⟩) hS (fun q _ h => hFc q h) hFc (fun ra1 u t H1 locs ht hvm hw hB hz1 hk1 hS => ?_)
  obtain ⟨hP1, hK1, hD1⟩ := hB
  rw [ht] at hP1
  obtain ⟨hP, hD⟩ := va_join (wr := [(h0, .inr (11, [.ref r0, .ref r1, .ref r2, .ref r3, .ref h1, .ref r4, .ref r5, .ref r6, .ref r7, .ref r8, .ref r9, .ref r10, .ref r11, .ref r12, .int 0, .int 5, .long 0]))]) (w1 := [(h1, .inr (5, [.ref r13, .ref r14, .int 0, .int 0]))]) hP hD [1] [0] rfl rfl (by decide) (by decide) hk1 hFc hP1 hD1
  generalize H1 = H at hP hS ⊢
  have hP : va_P (dC, dI) vwCl [(h0, .inr (11, [.ref r0, .ref r1, .ref r2, .ref r3, .ref h1, .ref r4, .ref r5, .ref r6, .ref r7, .ref r8, .ref r9, .ref r10, .ref r11, .ref r12, .int 0, .int 5, .long 0])), (h1, .inr (5, [.ref r13, .ref r14, .int 0, .int 0]))] H := hP
  have hD : va_D A [(h0, .inr (11, [.ref r0, .ref r1, .ref r2, .ref r3, .ref h1, .ref r4, .ref r5, .ref r6, .ref r7, .ref r8, .ref r9, .ref r10, .ref r11, .ref r12, .int 0, .int 5, .long 0])), (h1, .inr (5, [.ref r13, .ref r14, .int 0, .int 0]))] := hD
  obtain rfl : ra1 = (0 : Int32) := hw
  refine lv_if_eq (tgt := 35) hx hb dX11_years_7 (by decide) (fun _ => ?_) (fun c => absurd (by decide) c)
  refine lv_iconst (v := (-1)) hx hb dX11_years_35 (by decide) ?_
  have hP9 := hP.sub (ws' := [(h0, .inr (11, [.ref r0, .ref r1, .ref r2, .ref r3, .ref h1, .ref r4, .ref r5, .ref r6, .ref r7, .ref r8, .ref r9, .ref r10, .ref r11, .ref r12, .int 0, .int 5, .long 0])), (h1, .inr (5, [.ref r13, .ref r14, .int 0, .int 0]))]) [0, 1] rfl
  have hD9 := hD.sub (ws' := [(h0, .inr (11, [.ref r0, .ref r1, .ref r2, .ref r3, .ref h1, .ref r4, .ref r5, .ref r6, .ref r7, .ref r8, .ref r9, .ref r10, .ref r11, .ref r12, .int 0, .int 5, .long 0])), (h1, .inr (5, [.ref r13, .ref r14, .int 0, .int 0]))]) [0, 1] (by decide) rfl
  have hK9 := hK.sub (tys' := []) [] rfl
  exact W.iret (v := (-1)) hx hb hr (fun t ht hW => ⟨⟨(-1), (), rfl, rfl, by rw [ht]; exact hP9, va_K.moved hW.alike hK9, hD9⟩, hS.F ht⟩) hS.2.2 dX11_years_36
def q_X11_status : List Cond := .code yX11_status cX11_status 2 (some .int) :: (([.fieldLink RX11 96 "LeftArguments" "refused" "[I"] : List Cond) ++ wsX110)
set_option maxHeartbeats 4000000 in
set_option maxRecDepth 100000 in
theorem k_X11_status (l : Launch) (dC : Nat → ClassId) (dI : Nat → Nat → Nat) (g0 : ClassId) (h0 h1 : Nat) (r0 r1 r2 r3 r4 r5 r6 r7 r8 r9 r10 r11 r12 : Nat) (v0 : Int32) (sz : Nat) : Met l yX11_status q_X11_status ({ frames := 0, cells := 0, slots := 0, locals := 0 }) (va_Pc [.ref h0, .int v0] (fun U => U.heap.size = sz ∧ va_P (dC, dI) vwCl [(h0, .inr (11, [.ref r0, .ref r1, .ref r2, .ref r3, .ref r4, .ref r5, .ref r6, .ref r7, .ref r8, .ref r9, .ref r10, .ref r11, .ref r12, .ref h1, .int 0, .int 5, .long 0])), (h1, .inl (g0, 5, .inl (fun _ => 0)))] U.heap ∧ va_K (dC, dI) vwCl [(g0, .int)] U ∧ va_D (fun _ => True) [(h0, .inr (11, [.ref r0, .ref r1, .ref r2, .ref r3, .ref r4, .ref r5, .ref r6, .ref r7, .ref r8, .ref r9, .ref r10, .ref r11, .ref r12, .ref h1, .int 0, .int 5, .long 0])), (h1, .inl (g0, 5, .inl (fun _ => 0)))])) (va_Qi (fun (r : Int32) (_ : Unit) => r = (if v0 < 0 then (-1) else (if v0 < 5 then 0 else (-1)))) (fun (_ : Unit) (t : State) => va_P (dC, dI) vwCl [(h0, .inr (11, [.ref r0, .ref r1, .ref r2, .ref r3, .ref r4, .ref r5, .ref r6, .ref r7, .ref r8, .ref r9, .ref r10, .ref r11, .ref r12, .ref h1, .int 0, .int 5, .long 0])), (h1, .inl (g0, 5, .inl (fun _ => 0)))] t.heap ∧ va_K (dC, dI) vwCl [(g0, .int)] t ∧ va_D (va_A [(h0, .inr (11, [.ref r0, .ref r1, .ref r2, .ref r3, .ref r4, .ref r5, .ref r6, .ref r7, .ref r8, .ref r9, .ref r10, .ref r11, .ref r12, .ref h1, .int 0, .int 5, .long 0])), (h1, .inl (g0, 5, .inl (fun _ => 0)))] sz) [(h0, .inr (11, [.ref r0, .ref r1, .ref r2, .ref r3, .ref r4, .ref r5, .ref r6, .ref r7, .ref r8, .ref r9, .ref r10, .ref r11, .ref r12, .ref h1, .int 0, .int 5, .long 0])), (h1, .inl (g0, 5, .inl (fun _ => 0)))]) (va_A [(h0, .inr (11, [.ref r0, .ref r1, .ref r2, .ref r3, .ref r4, .ref r5, .ref r6, .ref r7, .ref r8, .ref r9, .ref r10, .ref r11, .ref r12, .ref h1, .int 0, .int 5, .long 0])), (h1, .inl (g0, 5, .inl (fun _ => 0)))] sz)) 0 0 (va_A [(h0, .inr (11, [.ref r0, .ref r1, .ref r2, .ref r3, .ref r4, .ref r5, .ref r6, .ref r7, .ref r8, .ref r9, .ref r10, .ref r11, .ref r12, .ref h1, .int 0, .int 5, .long 0])), (h1, .inl (g0, 5, .inl (fun _ => 0)))] sz) := by
  refine Met.ofW (cc := cX11_status) (maxL := 2) (ret := (some .int)) (by decide) rfl ?_
  intro p e s m args below meth c s₁ B hml hv
  obtain ⟨rfl, hsz, hP, hK, hD0⟩ := hv
  have hx := B.exec
  have hb := B.bytes
  have hr := B.returns
  have hts := atoms_spec (ws := q_X11_status) B.pre
  have hown : s.vm.findClass RX11 = some m.cls := findClass_of_methodNamed B.named
  have hlocks := B.notSynchronized
  subst hsz
  have hD := hD0.self (sz := s.heap.size)
  generalize hAe : va_A [(h0, .inr (11, [.ref r0, .ref r1, .ref r2, .ref r3, .ref r4, .ref r5, .ref r6, .ref r7, .ref r8, .ref r9, .ref r10, .ref r11, .ref r12, .ref h1, .int 0, .int 5, .long 0])), (h1, .inl (g0, 5, .inl (fun _ => 0)))] s.heap.size = A at hD ⊢
  have hA : ∀ q : Nat, s.heap.size ≤ q → A q := fun q h => by rw [← hAe]; exact Or.inr h
  have hS : va_S A s.heap s.heap [] := va_S.rf
  have hl := lv_entry ([.ref h0, .int v0]) (n := 2) (Nat.le_of_ble_eq_true rfl)
  rw [lg_entry_eq]
  generalize (lg_sl ([.ref h0, .int v0]) ++ List.replicate (2 - (lg_sl ([.ref h0, .int v0])).length) Slot.unset).toArray = ls at hl ⊢
  have hl : lv_has ls 2 [(0, .ref h0), (1, .int v0)] := hl
  refine lv_iload_n hx hb dX11_status_0 rfl (lv_at hl 1 rfl) ?_
  refine lv_if_lt (tgt := 9) hx hb dX11_status_1 (by decide) (fun c1 => ?_) (fun c1 => ?_)
  · skip
    refine lv_iconst (v := (-1)) hx hb dX11_status_9 (by decide) ?_
    refine lv_goto (tgt := 19) hx hb dX11_status_10 (by decide) ?_
    have hP9 := hP.sub (ws' := [(h0, .inr (11, [.ref r0, .ref r1, .ref r2, .ref r3, .ref r4, .ref r5, .ref r6, .ref r7, .ref r8, .ref r9, .ref r10, .ref r11, .ref r12, .ref h1, .int 0, .int 5, .long 0])), (h1, .inl (g0, 5, .inl (fun _ => 0)))]) [0, 1] rfl
    have hD9 := hD.sub (ws' := [(h0, .inr (11, [.ref r0, .ref r1, .ref r2, .ref r3, .ref r4, .ref r5, .ref r6, .ref r7, .ref r8, .ref r9, .ref r10, .ref r11, .ref r12, .ref h1, .int 0, .int 5, .long 0])), (h1, .inl (g0, 5, .inl (fun _ => 0)))]) [0, 1] (by decide) rfl
    have hK9 := hK.sub (tys' := [(g0, .int)]) [0] rfl
    exact W.iret (v := (-1)) hx hb hr (fun t ht hW => ⟨⟨(-1), (), rfl, by rw [if_pos c1], by rw [ht]; exact hP9, va_K.moved hW.alike hK9, hD9⟩, hS.F ht⟩) hS.2.2 dX11_status_19
  · skip
    refine lv_iload_n hx hb dX11_status_4 rfl (lv_at hl 1 rfl) ?_
    refine lv_iconst (v := 5) hx hb dX11_status_5 (by decide) ?_
    refine lv_icmp_lt (tgt := 13) hx hb dX11_status_6 (by decide) (fun c2 => ?_) (fun c2 => ?_)
    · skip
      refine lv_aload_n hx hb dX11_status_13 rfl (lv_at hl 0 rfl) ?_
      refine va_get (D := (dC, dI)) (ci := 11) (v := .ref h1) (C := RX11) (T := TX11) (N := 17) hx hb hts (fun _ h => List.mem_cons_of_mem _ (List.mem_append_right _ h)) hown hK hP 0 rfl rfl 13 (by decide) (hts (.fieldLink RX11 96 "LeftArguments" "refused" "[I") (List.mem_cons_of_mem _ (List.mem_append_left _ (List.mem_of_getElem? (i := 0) rfl)))) (fun _ h9 => h9) rfl dX11_status_14 ?_
      refine lv_iload_n hx hb dX11_status_17 rfl (lv_at hl 1 rfl) ?_
      refine va_iald hx hb hK hP 1 0 rfl rfl (pv_enum (P := fun y => vp_in (y) 5) (x := v0) (N := 5) (by (have t0 : ¬ v0.toInt < (0) := fun h9 => c1 (Int32.lt_iff_toInt_lt.mpr h9); have t1 : v0.toInt < (5) := Int32.lt_iff_toInt_lt.mp c2; omega)) (by (have t0 : ¬ v0.toInt < (0) := fun h9 => c1 (Int32.lt_iff_toInt_lt.mpr h9); have t1 : v0.toInt < (5) := Int32.lt_iff_toInt_lt.mp c2; omega)) (fun j => pv_c ((by decide +kernel : ∀ j : Fin 5, decide (¬ (((nI j.val)) < 0 ∨ 5 ≤ ((nI j.val)).toNatClampNeg)) = true) j))) dX11_status_18 ?_
      refine lv_topi (fun tv3 etv3 => ?_)
      obtain rfl : tv3 = (0 : Int32) := etv3.trans (by first | rfl | decide)
      have hP9 := hP.sub (ws' := [(h0, .inr (11, [.ref r0, .ref r1, .ref r2, .ref r3, .ref r4, .ref r5, .ref r6, .ref r7, .ref r8, .ref r9, .ref r10, .ref r11, .ref r12, .ref h1, .int 0, .int 5, .long 0])), (h1, .inl (g0, 5, .inl (fun _ => 0)))]) [0, 1] rfl
      have hD9 := hD.sub (ws' := [(h0, .inr (11, [.ref r0, .ref r1, .ref r2, .ref r3, .ref r4, .ref r5, .ref r6, .ref r7, .ref r8, .ref r9, .ref r10, .ref r11, .ref r12, .ref h1, .int 0, .int 5, .long 0])), (h1, .inl (g0, 5, .inl (fun _ => 0)))]) [0, 1] (by decide) rfl
      have hK9 := hK.sub (tys' := [(g0, .int)]) [0] rfl
      exact W.iret (v := 0) hx hb hr (fun t ht hW => ⟨⟨0, (), rfl, by rw [if_neg c1, if_pos c2], by rw [ht]; exact hP9, va_K.moved hW.alike hK9, hD9⟩, hS.F ht⟩) hS.2.2 dX11_status_19
    · skip
      refine lv_iconst (v := (-1)) hx hb dX11_status_9 (by decide) ?_
      refine lv_goto (tgt := 19) hx hb dX11_status_10 (by decide) ?_
      have hP9 := hP.sub (ws' := [(h0, .inr (11, [.ref r0, .ref r1, .ref r2, .ref r3, .ref r4, .ref r5, .ref r6, .ref r7, .ref r8, .ref r9, .ref r10, .ref r11, .ref r12, .ref h1, .int 0, .int 5, .long 0])), (h1, .inl (g0, 5, .inl (fun _ => 0)))]) [0, 1] rfl
      have hD9 := hD.sub (ws' := [(h0, .inr (11, [.ref r0, .ref r1, .ref r2, .ref r3, .ref r4, .ref r5, .ref r6, .ref r7, .ref r8, .ref r9, .ref r10, .ref r11, .ref r12, .ref h1, .int 0, .int 5, .long 0])), (h1, .inl (g0, 5, .inl (fun _ => 0)))]) [0, 1] (by decide) rfl
      have hK9 := hK.sub (tys' := [(g0, .int)]) [0] rfl
      exact W.iret (v := (-1)) hx hb hr (fun t ht hW => ⟨⟨(-1), (), rfl, by rw [if_neg c1, if_neg c2], by rw [ht]; exact hP9, va_K.moved hW.alike hK9, hD9⟩, hS.F ht⟩) hS.2.2 dX11_status_19
def q_X0_takeBack : List Cond := .code yX0_takeBack cX0_takeBack 2 (some .boolean) :: (([.fieldLink RX0 19 "LeftArguments$Acts" "number" "I"] : List Cond) ++ wsX00)
set_option maxHeartbeats 4000000 in
set_option maxRecDepth 100000 in
theorem k_X0_takeBack (l : Launch) (dC : Nat → ClassId) (dI : Nat → Nat → Nat) (h0 : Nat) (r0 r1 : Nat) (sz : Nat) : Met l yX0_takeBack q_X0_takeBack ({ frames := 0, cells := 0, slots := 0, locals := 0 }) (va_Pc [.ref h0, .ref r1] (fun U => U.heap.size = sz ∧ va_P (dC, dI) vwCl [(h0, .inr (0, [.ref r0, .int 0, .int 0]))] U.heap ∧ va_K (dC, dI) vwCl [] U ∧ va_D (fun _ => True) [(h0, .inr (0, [.ref r0, .int 0, .int 0]))])) (va_Qi (fun (r : Int32) (_ : Unit) => r = 0) (fun (_ : Unit) (t : State) => va_P (dC, dI) vwCl [(h0, .inr (0, [.ref r0, .int 0, .int 0]))] t.heap ∧ va_K (dC, dI) vwCl [] t ∧ va_D (va_A [(h0, .inr (0, [.ref r0, .int 0, .int 0]))] sz) [(h0, .inr (0, [.ref r0, .int 0, .int 0]))]) (va_A [(h0, .inr (0, [.ref r0, .int 0, .int 0]))] sz)) 0 0 (va_A [(h0, .inr (0, [.ref r0, .int 0, .int 0]))] sz) := by
  refine Met.ofW (cc := cX0_takeBack) (maxL := 2) (ret := (some .boolean)) (by decide) rfl ?_
  intro p e s m args below meth c s₁ B hml hv
  obtain ⟨rfl, hsz, hP, hK, hD0⟩ := hv
  have hx := B.exec
  have hb := B.bytes
  have hr := B.returns
  have hts := atoms_spec (ws := q_X0_takeBack) B.pre
  have hown : s.vm.findClass RX0 = some m.cls := findClass_of_methodNamed B.named
  have hlocks := B.notSynchronized
  subst hsz
  have hD := hD0.self (sz := s.heap.size)
  generalize hAe : va_A [(h0, .inr (0, [.ref r0, .int 0, .int 0]))] s.heap.size = A at hD ⊢
  have hA : ∀ q : Nat, s.heap.size ≤ q → A q := fun q h => by rw [← hAe]; exact Or.inr h
  have hS : va_S A s.heap s.heap [] := va_S.rf
  have hl := lv_entry ([.ref h0, .ref r1]) (n := 2) (Nat.le_of_ble_eq_true rfl)
  rw [lg_entry_eq]
  generalize (lg_sl ([.ref h0, .ref r1]) ++ List.replicate (2 - (lg_sl ([.ref h0, .ref r1])).length) Slot.unset).toArray = ls at hl ⊢
  have hl : lv_has ls 2 [(0, .ref h0), (1, .ref r1)] := hl
  refine lv_aload_n hx hb dX0_takeBack_0 rfl (lv_at hl 0 rfl) ?_
  refine va_get (D := (dC, dI)) (ci := 0) (v := .int 0) (C := RX0) (T := TX0) (N := 3) hx hb hts (fun _ h => List.mem_cons_of_mem _ (List.mem_append_right _ h)) hown hK hP 0 rfl rfl 2 (by decide) (hts (.fieldLink RX0 19 "LeftArguments$Acts" "number" "I") (List.mem_cons_of_mem _ (List.mem_append_left _ (List.mem_of_getElem? (i := 0) rfl)))) (fun _ h9 => h9) rfl dX0_takeBack_1 ?_
  refine lv_iconst (v := 1) hx hb dX0_takeBack_4 (by decide) ?_
  refine lv_icmp_ge (tgt := 10) hx hb dX0_takeBack_5 (by decide) (fun c => absurd c (by decide)) (fun _ => ?_)
  refine lv_iconst (v := 0) hx hb dX0_takeBack_8 (by decide) ?_
  have hP9 := hP.sub (ws' := [(h0, .inr (0, [.ref r0, .int 0, .int 0]))]) [0] rfl
  have hD9 := hD.sub (ws' := [(h0, .inr (0, [.ref r0, .int 0, .int 0]))]) [0] (by decide) rfl
  have hK9 := hK.sub (tys' := []) [] rfl
  exact W.zret (v := 0) hx hb hr rfl (fun t ht hW => ⟨⟨0, (), rfl, rfl, by rw [ht]; exact hP9, va_K.moved hW.alike hK9, hD9⟩, hS.F ht⟩) hS.2.2 dX0_takeBack_9
def q_X11_undo : List Cond := .code yX11_undo cX11_undo 1 (some .int) :: (([.fieldLink RX11 63 "LeftArguments" "acts" "LLeftArguments$Acts;", .fieldLink RX11 49 "LeftArguments" "room" "LLeftArguments$Room;", .code yX0_takeBack cX0_takeBack 2 (some .boolean), .fieldLink RX0 19 "LeftArguments$Acts" "number" "I", .initialized RX0, .instanceMethod yX0_takeBack, .selects RX0 yX0_takeBack yX0_takeBack, .methodLink RX11 267 yX0_takeBack] : List Cond) ++ wsX110 ++ wsX00)
set_option maxRecDepth 20000 in
theorem g_X11_undo_0 : GoodIn q_X11_undo (wsV RX11 267 RX0 yX0_takeBack q_X0_takeBack) := goodIn_app (goodIn_r _ [8, 6, 7, 5] (by decide +kernel) (by decide +kernel)) (goodIn_ca (goodIn_r (.code yX0_takeBack cX0_takeBack 2 (some .boolean) :: [.fieldLink RX0 19 "LeftArguments$Acts" "number" "I"]) [3, 4] (by decide +kernel) (by decide +kernel)) (goodIn_sub (fun _ h => List.mem_cons_of_mem _ (List.mem_append_right _ h)) gwX0))
set_option maxHeartbeats 4000000 in
set_option maxRecDepth 100000 in
theorem k_X11_undo (l : Launch) (dC : Nat → ClassId) (dI : Nat → Nat → Nat) (h0 h1 : Nat) (r0 r1 r2 r3 r4 r5 r6 r7 r8 r9 r10 r11 r12 r13 : Nat) (sz : Nat) : Met l yX11_undo q_X11_undo ({ frames := 1, cells := 0, slots := 0, locals := 21 }) (va_Pc [.ref h0] (fun U => U.heap.size = sz ∧ va_P (dC, dI) vwCl [(h0, .inr (11, [.ref r0, .ref r1, .ref r2, .ref r3, .ref r4, .ref r5, .ref r6, .ref h1, .ref r7, .ref r8, .ref r9, .ref r10, .ref r11, .ref r12, .int 0, .int 5, .long 0])), (h1, .inr (0, [.ref r13, .int 0, .int 0]))] U.heap ∧ va_K (dC, dI) vwCl [] U ∧ va_D (fun _ => True) [(h0, .inr (11, [.ref r0, .ref r1, .ref r2, .ref r3, .ref r4, .ref r5, .ref r6, .ref h1, .ref r7, .ref r8, .ref r9, .ref r10, .ref r11, .ref r12, .int 0, .int 5, .long 0])), (h1, .inr (0, [.ref r13, .int 0, .int 0]))])) (va_Qi (fun (r : Int32) (_ : Unit) => r = (-1)) (fun (_ : Unit) (t : State) => va_P (dC, dI) vwCl [(h0, .inr (11, [.ref r0, .ref r1, .ref r2, .ref r3, .ref r4, .ref r5, .ref r6, .ref h1, .ref r7, .ref r8, .ref r9, .ref r10, .ref r11, .ref r12, .int 0, .int 5, .long 0])), (h1, .inr (0, [.ref r13, .int 0, .int 0]))] t.heap ∧ va_K (dC, dI) vwCl [] t ∧ va_D (va_A [(h0, .inr (11, [.ref r0, .ref r1, .ref r2, .ref r3, .ref r4, .ref r5, .ref r6, .ref h1, .ref r7, .ref r8, .ref r9, .ref r10, .ref r11, .ref r12, .int 0, .int 5, .long 0])), (h1, .inr (0, [.ref r13, .int 0, .int 0]))] sz) [(h0, .inr (11, [.ref r0, .ref r1, .ref r2, .ref r3, .ref r4, .ref r5, .ref r6, .ref h1, .ref r7, .ref r8, .ref r9, .ref r10, .ref r11, .ref r12, .int 0, .int 5, .long 0])), (h1, .inr (0, [.ref r13, .int 0, .int 0]))]) (va_A [(h0, .inr (11, [.ref r0, .ref r1, .ref r2, .ref r3, .ref r4, .ref r5, .ref r6, .ref h1, .ref r7, .ref r8, .ref r9, .ref r10, .ref r11, .ref r12, .int 0, .int 5, .long 0])), (h1, .inr (0, [.ref r13, .int 0, .int 0]))] sz)) 0 0 (va_A [(h0, .inr (11, [.ref r0, .ref r1, .ref r2, .ref r3, .ref r4, .ref r5, .ref r6, .ref h1, .ref r7, .ref r8, .ref r9, .ref r10, .ref r11, .ref r12, .int 0, .int 5, .long 0])), (h1, .inr (0, [.ref r13, .int 0, .int 0]))] sz) := by
  refine Met.ofW (cc := cX11_undo) (maxL := 1) (ret := (some .int)) (by decide) rfl ?_
  intro p e s m args below meth c s₁ B hml hv
  obtain ⟨rfl, hsz, hP, hK, hD0⟩ := hv
  have hx := B.exec
  have hb := B.bytes
  have hr := B.returns
  have hts := atoms_spec (ws := q_X11_undo) B.pre
  have hown : s.vm.findClass RX11 = some m.cls := findClass_of_methodNamed B.named
  have hlocks := B.notSynchronized
  subst hsz
  have hD := hD0.self (sz := s.heap.size)
  generalize hAe : va_A [(h0, .inr (11, [.ref r0, .ref r1, .ref r2, .ref r3, .ref r4, .ref r5, .ref r6, .ref h1, .ref r7, .ref r8, .ref r9, .ref r10, .ref r11, .ref r12, .int 0, .int 5, .long 0])), (h1, .inr (0, [.ref r13, .int 0, .int 0]))] s.heap.size = A at hD ⊢
  have hA : ∀ q : Nat, s.heap.size ≤ q → A q := fun q h => by rw [← hAe]; exact Or.inr h
  have hS : va_S A s.heap s.heap [] := va_S.rf
  have hl := lv_entry ([.ref h0]) (n := 1) (Nat.le_of_ble_eq_true rfl)
  rw [lg_entry_eq]
  generalize (lg_sl ([.ref h0]) ++ List.replicate (1 - (lg_sl ([.ref h0])).length) Slot.unset).toArray = ls at hl ⊢
  have hl : lv_has ls 1 [(0, .ref h0)] := hl
  refine lv_aload_n hx hb dX11_undo_0 rfl (lv_at hl 0 rfl) ?_
  refine va_get (D := (dC, dI)) (ci := 11) (v := .ref h1) (C := RX11) (T := TX11) (N := 17) hx hb hts (fun _ h => List.mem_cons_of_mem _ (List.mem_append_left _ (List.mem_append_right _ h))) hown hK hP 0 rfl rfl 7 (by decide) (hts (.fieldLink RX11 63 "LeftArguments" "acts" "LLeftArguments$Acts;") (List.mem_cons_of_mem _ (List.mem_append_left _ (List.mem_append_left _ (List.mem_of_getElem? (i := 0) rfl))))) (fun _ h9 => h9) rfl dX11_undo_1 ?_
  refine lv_aload_n hx hb dX11_undo_4 rfl (lv_at hl 0 rfl) ?_
  refine va_get (D := (dC, dI)) (ci := 11) (v := .ref r5) (C := RX11) (T := TX11) (N := 17) hx hb hts (fun _ h => List.mem_cons_of_mem _ (List.mem_append_left _ (List.mem_append_right _ h))) hown hK hP 0 rfl rfl 5 (by decide) (hts (.fieldLink RX11 49 "LeftArguments" "room" "LLeftArguments$Room;") (List.mem_cons_of_mem _ (List.mem_append_left _ (List.mem_append_left _ (List.mem_of_getElem? (i := 1) rfl))))) (fun _ h9 => h9) rfl dX11_undo_5 ?_
  have hPc := hP.sub (ws' := [(h1, .inr (0, [.ref r13, .int 0, .int 0]))]) [1] rfl
  have hDc := hD.sub (ws' := [(h1, .inr (0, [.ref r13, .int 0, .int 0]))]) [1] (by decide) rfl
  have hKc := hK.sub (tys' := []) [] rfl
  have hFc := va_free (wc := [(h1, .inr (0, [.ref r13, .int 0, .int 0]))]) hD hS hA [1] rfl
  refine va_calli (va_runV (As := [.ref r5]) (rest := []) ⟨hx, hb, hml, hown, hts⟩ (k_X0_takeBack l dC dI h1 r13 r5  s.heap.size) (cwV 1 hts g_X11_undo_0 rfl rfl rfl (by decide +kernel) ⟨Nat.le_of_ble_eq_true rfl, Nat.le_of_ble_eq_true rfl⟩) ⟨fun a U g mk q => by obtain ⟨q0, q1, qP, qK, qD⟩ := q; exact ⟨q0, q1, qP, va_K.moved (u := U) (U := U.calling g mk a) (Vm.Alike.refl U.vm) qK, qD⟩, va_recv hKc hPc (ci := 0) (q0 := 0) rfl rfl, fun U hU hW => ⟨rfl, by rw [hU], by rw [hU]; exact hPc, va_K.moved hW.alike hKc, hDc.weaken (fun _ _ _ _ => trivial)⟩⟩ rfl rfl hl.1 rfl (lv_room (Nat.le_of_ble_eq_true rfl)) dX11_undo_8 ⟨Nat.le_of_ble_eq_true rfl, Nat.le_of_ble_eq_true rfl⟩) hS (fun q _ h => hFc q h) hFc (fun ra1 u t H1 locs ht hvm hw hB hz1 hk1 hS => ?_)
  obtain ⟨hP1, hK1, hD1⟩ := hB
  rw [ht] at hP1
  obtain ⟨hP, hD⟩ := va_join (wr := [(h0, .inr (11, [.ref r0, .ref r1, .ref r2, .ref r3, .ref r4, .ref r5, .ref r6, .ref h1, .ref r7, .ref r8, .ref r9, .ref r10, .ref r11, .ref r12, .int 0, .int 5, .long 0]))]) (w1 := [(h1, .inr (0, [.ref r13, .int 0, .int 0]))]) hP hD [1] [0] rfl rfl (by decide) (by decide) hk1 hFc hP1 hD1
  generalize H1 = H at hP hS ⊢
  have hP : va_P (dC, dI) vwCl [(h0, .inr (11, [.ref r0, .ref r1, .ref r2, .ref r3, .ref r4, .ref r5, .ref r6, .ref h1, .ref r7, .ref r8, .ref r9, .ref r10, .ref r11, .ref r12, .int 0, .int 5, .long 0])), (h1, .inr (0, [.ref r13, .int 0, .int 0]))] H := hP
  have hD : va_D A [(h0, .inr (11, [.ref r0, .ref r1, .ref r2, .ref r3, .ref r4, .ref r5, .ref r6, .ref h1, .ref r7, .ref r8, .ref r9, .ref r10, .ref r11, .ref r12, .int 0, .int 5, .long 0])), (h1, .inr (0, [.ref r13, .int 0, .int 0]))] := hD
  obtain rfl : ra1 = (0 : Int32) := hw
  refine lv_if_eq (tgt := 24) hx hb dX11_undo_11 (by decide) (fun _ => ?_) (fun c => absurd (by decide) c)
  refine lv_iconst (v := (-1)) hx hb dX11_undo_24 (by decide) ?_
  have hP9 := hP.sub (ws' := [(h0, .inr (11, [.ref r0, .ref r1, .ref r2, .ref r3, .ref r4, .ref r5, .ref r6, .ref h1, .ref r7, .ref r8, .ref r9, .ref r10, .ref r11, .ref r12, .int 0, .int 5, .long 0])), (h1, .inr (0, [.ref r13, .int 0, .int 0]))]) [0, 1] rfl
  have hD9 := hD.sub (ws' := [(h0, .inr (11, [.ref r0, .ref r1, .ref r2, .ref r3, .ref r4, .ref r5, .ref r6, .ref h1, .ref r7, .ref r8, .ref r9, .ref r10, .ref r11, .ref r12, .int 0, .int 5, .long 0])), (h1, .inr (0, [.ref r13, .int 0, .int 0]))]) [0, 1] (by decide) rfl
  have hK9 := hK.sub (tys' := []) [] rfl
  exact W.iret (v := (-1)) hx hb hr (fun t ht hW => ⟨⟨(-1), (), rfl, rfl, by rw [ht]; exact hP9, va_K.moved hW.alike hK9, hD9⟩, hS.F ht⟩) hS.2.2 dX11_undo_25
def q_X7_day : List Cond := .code yX7_day cX7_day 1 (some .int) :: (([.fieldLink RX7 11 "LeftArguments$Room" "cells" "[I"] : List Cond) ++ wsX70)
set_option maxHeartbeats 4000000 in
set_option maxRecDepth 100000 in
theorem k_X7_day (l : Launch) (dC : Nat → ClassId) (dI : Nat → Nat → Nat) (g0 : ClassId) (h0 h1 : Nat) (r0 : Nat) (sz : Nat) : Met l yX7_day q_X7_day ({ frames := 0, cells := 0, slots := 0, locals := 0 }) (va_Pc [.ref h0] (fun U => U.heap.size = sz ∧ va_P (dC, dI) vwCl [(h0, .inr (7, [.ref h1, .ref r0, .int 0, .int 0])), (h1, .inl (g0, 58, .inl (fun _ => 0)))] U.heap ∧ va_K (dC, dI) vwCl [(g0, .int)] U ∧ va_D (fun _ => True) [(h0, .inr (7, [.ref h1, .ref r0, .int 0, .int 0])), (h1, .inl (g0, 58, .inl (fun _ => 0)))])) (va_Qi (fun (r : Int32) (_ : Unit) => r = 0) (fun (_ : Unit) (t : State) => va_P (dC, dI) vwCl [(h0, .inr (7, [.ref h1, .ref r0, .int 0, .int 0])), (h1, .inl (g0, 58, .inl (fun _ => 0)))] t.heap ∧ va_K (dC, dI) vwCl [(g0, .int)] t ∧ va_D (va_A [(h0, .inr (7, [.ref h1, .ref r0, .int 0, .int 0])), (h1, .inl (g0, 58, .inl (fun _ => 0)))] sz) [(h0, .inr (7, [.ref h1, .ref r0, .int 0, .int 0])), (h1, .inl (g0, 58, .inl (fun _ => 0)))]) (va_A [(h0, .inr (7, [.ref h1, .ref r0, .int 0, .int 0])), (h1, .inl (g0, 58, .inl (fun _ => 0)))] sz)) 0 0 (va_A [(h0, .inr (7, [.ref h1, .ref r0, .int 0, .int 0])), (h1, .inl (g0, 58, .inl (fun _ => 0)))] sz) := by
  refine Met.ofW (cc := cX7_day) (maxL := 1) (ret := (some .int)) (by decide) rfl ?_
  intro p e s m args below meth c s₁ B hml hv
  obtain ⟨rfl, hsz, hP, hK, hD0⟩ := hv
  have hx := B.exec
  have hb := B.bytes
  have hr := B.returns
  have hts := atoms_spec (ws := q_X7_day) B.pre
  have hown : s.vm.findClass RX7 = some m.cls := findClass_of_methodNamed B.named
  have hlocks := B.notSynchronized
  subst hsz
  have hD := hD0.self (sz := s.heap.size)
  generalize hAe : va_A [(h0, .inr (7, [.ref h1, .ref r0, .int 0, .int 0])), (h1, .inl (g0, 58, .inl (fun _ => 0)))] s.heap.size = A at hD ⊢
  have hA : ∀ q : Nat, s.heap.size ≤ q → A q := fun q h => by rw [← hAe]; exact Or.inr h
  have hS : va_S A s.heap s.heap [] := va_S.rf
  have hl := lv_entry ([.ref h0]) (n := 1) (Nat.le_of_ble_eq_true rfl)
  rw [lg_entry_eq]
  generalize (lg_sl ([.ref h0]) ++ List.replicate (1 - (lg_sl ([.ref h0])).length) Slot.unset).toArray = ls at hl ⊢
  have hl : lv_has ls 1 [(0, .ref h0)] := hl
  refine lv_aload_n hx hb dX7_day_0 rfl (lv_at hl 0 rfl) ?_
  refine va_get (D := (dC, dI)) (ci := 7) (v := .ref h1) (C := RX7) (T := TX7) (N := 4) hx hb hts (fun _ h => List.mem_cons_of_mem _ (List.mem_append_right _ h)) hown hK hP 0 rfl rfl 0 (by decide) (hts (.fieldLink RX7 11 "LeftArguments$Room" "cells" "[I") (List.mem_cons_of_mem _ (List.mem_append_left _ (List.mem_of_getElem? (i := 0) rfl)))) (fun _ h9 => h9) rfl dX7_day_1 ?_
  refine lv_bipush (v := 57) hx hb dX7_day_4 (by decide) ?_
  refine va_iald hx hb hK hP 1 0 rfl rfl (pv_c (x := 57) (n := 58) (by decide)) dX7_day_6 ?_
  refine lv_topi (fun tv1 etv1 => ?_)
  obtain rfl : tv1 = (0 : Int32) := etv1.trans (by first | rfl | decide)
  have hP9 := hP.sub (ws' := [(h0, .inr (7, [.ref h1, .ref r0, .int 0, .int 0])), (h1, .inl (g0, 58, .inl (fun _ => 0)))]) [0, 1] rfl
  have hD9 := hD.sub (ws' := [(h0, .inr (7, [.ref h1, .ref r0, .int 0, .int 0])), (h1, .inl (g0, 58, .inl (fun _ => 0)))]) [0, 1] (by decide) rfl
  have hK9 := hK.sub (tys' := [(g0, .int)]) [0] rfl
  exact W.iret (v := 0) hx hb hr (fun t ht hW => ⟨⟨0, (), rfl, rfl, by rw [ht]; exact hP9, va_K.moved hW.alike hK9, hD9⟩, hS.F ht⟩) hS.2.2 dX7_day_7
def q_X1_lengthOn : List Cond := .code yX1_lengthOn cX1_lengthOn 1 (some .int) :: (([.methodLink RX1 25 Lib.Math.min.name, .static Lib.Math.min.name, .initialized "java/lang/Math", .code Lib.Math.min.name Lib.Math.min.code 2 (some .int)] : List Cond))
set_option maxHeartbeats 4000000 in
set_option maxRecDepth 100000 in
theorem k_X1_lengthOn (l : Launch) (dC : Nat → ClassId) (dI : Nat → Nat → Nat)  (sz : Nat) : Met l yX1_lengthOn q_X1_lengthOn ({ frames := 1, cells := 0, slots := 0, locals := 13 }) (va_Pc [.int 0] (fun U => U.heap.size = sz ∧ va_P (dC, dI) vwCl [] U.heap ∧ va_K (dC, dI) vwCl [] U ∧ va_D (fun _ => True) [])) (va_Qi (fun (r : Int32) (_ : Unit) => r = 0) (fun (_ : Unit) (t : State) => va_P (dC, dI) vwCl [] t.heap ∧ va_K (dC, dI) vwCl [] t ∧ va_D (va_A [] sz) []) (va_A [] sz)) 0 0 (va_A [] sz) := by
  refine Met.ofW (cc := cX1_lengthOn) (maxL := 1) (ret := (some .int)) (by decide) rfl ?_
  intro p e s m args below meth c s₁ B hml hv
  obtain ⟨rfl, hsz, hP, hK, hD0⟩ := hv
  have hx := B.exec
  have hb := B.bytes
  have hr := B.returns
  have hts := atoms_spec (ws := q_X1_lengthOn) B.pre
  have hown : s.vm.findClass RX1 = some m.cls := findClass_of_methodNamed B.named
  have hlocks := B.notSynchronized
  subst hsz
  have hD := hD0.self (sz := s.heap.size)
  generalize hAe : va_A [] s.heap.size = A at hD ⊢
  have hA : ∀ q : Nat, s.heap.size ≤ q → A q := fun q h => by rw [← hAe]; exact Or.inr h
  have hS : va_S A s.heap s.heap [] := va_S.rf
  have hl := lv_entry ([.int 0]) (n := 1) (Nat.le_of_ble_eq_true rfl)
  rw [lg_entry_eq]
  generalize (lg_sl ([.int 0]) ++ List.replicate (1 - (lg_sl ([.int 0])).length) Slot.unset).toArray = ls at hl ⊢
  have hl : lv_has ls 1 [(0, .int 0)] := hl
  refine lv_iload_n hx hb dX1_lengthOn_0 rfl (lv_at hl 0 rfl) ?_
  refine lv_bipush (v := 60) hx hb dX1_lengthOn_1 (by decide) ?_
  refine va_mmin hx hb (by rw [hml]; exact hl.1.symm) hown (hts (.methodLink RX1 25 Lib.Math.min.name) (List.mem_cons_of_mem _ (List.mem_of_getElem? (i := 0) rfl))) (hts (.static Lib.Math.min.name) (List.mem_cons_of_mem _ (List.mem_of_getElem? (i := 1) rfl))) (hts (.initialized "java/lang/Math") (List.mem_cons_of_mem _ (List.mem_of_getElem? (i := 2) rfl))) (hts (.code Lib.Math.min.name Lib.Math.min.code 2 (some .int)) (List.mem_cons_of_mem _ (List.mem_of_getElem? (i := 3) rfl))) (Nat.le_of_ble_eq_true rfl) (Nat.le_of_ble_eq_true rfl) (Nat.le_of_ble_eq_true rfl) (Nat.le_of_ble_eq_true rfl) dX1_lengthOn_3 ?_
  refine lv_topi (fun tv1 etv1 => ?_)
  obtain rfl : tv1 = (0 : Int32) := etv1.trans (by first | rfl | decide)
  have hP9 := hP.sub (ws' := []) [] rfl
  have hD9 := hD.sub (ws' := []) [] (by decide) rfl
  have hK9 := hK.sub (tys' := []) [] rfl
  exact W.iret (v := 0) hx hb hr (fun t ht hW => ⟨⟨0, (), rfl, rfl, by rw [ht]; exact hP9, va_K.moved hW.alike hK9, hD9⟩, hS.F ht⟩) hS.2.2 dX1_lengthOn_6
def q_X1_told : List Cond := .code yX1_told cX1_told 4 (some .int) :: (([.code yX1_lengthOn cX1_lengthOn 1 (some .int), .methodLink RX1 25 Lib.Math.min.name, .static Lib.Math.min.name, .initialized "java/lang/Math", .code Lib.Math.min.name Lib.Math.min.code 2 (some .int), .initialized RX1, .static yX1_lengthOn, .methodLink RX1 28 yX1_lengthOn] : List Cond))
set_option maxRecDepth 20000 in
theorem g_X1_told_0 : GoodIn q_X1_told (va_wsS RX1 28 yX1_lengthOn q_X1_lengthOn) := goodIn_app (goodIn_r _ [8, 7, 6] (by decide +kernel) (by decide +kernel)) (goodIn_r (.code yX1_lengthOn cX1_lengthOn 1 (some .int) :: [.methodLink RX1 25 Lib.Math.min.name, .static Lib.Math.min.name, .initialized "java/lang/Math", .code Lib.Math.min.name Lib.Math.min.code 2 (some .int)]) [1, 2, 3, 4, 5] (by decide +kernel) (by decide +kernel))
set_option maxHeartbeats 4000000 in
set_option maxRecDepth 100000 in
theorem k_X1_told (l : Launch) (dC : Nat → ClassId) (dI : Nat → Nat → Nat) (h0 : Nat) (r0 : Nat) (v0 v1 : Int32) (sz : Nat) : Met l yX1_told q_X1_told ({ frames := 2, cells := 0, slots := 0, locals := 33 }) (va_Pc [.ref h0, .int 0, .int v0, .int v1] (fun U => U.heap.size = sz ∧ va_P (dC, dI) vwCl [(h0, .inr (1, [.ref r0]))] U.heap ∧ va_K (dC, dI) vwCl [] U ∧ va_D (fun _ => True) [(h0, .inr (1, [.ref r0]))])) (va_Qi (fun (r : Int32) (_ : Unit) => r = (-1)) (fun (_ : Unit) (t : State) => va_P (dC, dI) vwCl [(h0, .inr (1, [.ref r0]))] t.heap ∧ va_K (dC, dI) vwCl [] t ∧ va_D (va_A [(h0, .inr (1, [.ref r0]))] sz) [(h0, .inr (1, [.ref r0]))]) (va_A [(h0, .inr (1, [.ref r0]))] sz)) 0 0 (va_A [(h0, .inr (1, [.ref r0]))] sz) := by
  refine Met.ofW (cc := cX1_told) (maxL := 4) (ret := (some .int)) (by decide) rfl ?_
  intro p e s m args below meth c s₁ B hml hv
  obtain ⟨rfl, hsz, hP, hK, hD0⟩ := hv
  have hx := B.exec
  have hb := B.bytes
  have hr := B.returns
  have hts := atoms_spec (ws := q_X1_told) B.pre
  have hown : s.vm.findClass RX1 = some m.cls := findClass_of_methodNamed B.named
  have hlocks := B.notSynchronized
  subst hsz
  have hD := hD0.self (sz := s.heap.size)
  generalize hAe : va_A [(h0, .inr (1, [.ref r0]))] s.heap.size = A at hD ⊢
  have hA : ∀ q : Nat, s.heap.size ≤ q → A q := fun q h => by rw [← hAe]; exact Or.inr h
  have hS : va_S A s.heap s.heap [] := va_S.rf
  have hl := lv_entry ([.ref h0, .int 0, .int v0, .int v1]) (n := 4) (Nat.le_of_ble_eq_true rfl)
  rw [lg_entry_eq]
  generalize (lg_sl ([.ref h0, .int 0, .int v0, .int v1]) ++ List.replicate (4 - (lg_sl ([.ref h0, .int 0, .int v0, .int v1])).length) Slot.unset).toArray = ls at hl ⊢
  have hl : lv_has ls 4 [(0, .ref h0), (1, .int 0), (2, .int v0), (3, .int v1)] := hl
  refine lv_iload_n hx hb dX1_told_0 rfl (lv_at hl 2 rfl) ?_
  refine lv_if_lt (tgt := 21) hx hb dX1_told_1 (by decide) (fun c1 => ?_) (fun c1 => ?_)
  · skip
    refine lv_iconst (v := (-1)) hx hb dX1_told_21 (by decide) ?_
    have hP9 := hP.sub (ws' := [(h0, .inr (1, [.ref r0]))]) [0] rfl
    have hD9 := hD.sub (ws' := [(h0, .inr (1, [.ref r0]))]) [0] (by decide) rfl
    have hK9 := hK.sub (tys' := []) [] rfl
    exact W.iret (v := (-1)) hx hb hr (fun t ht hW => ⟨⟨(-1), (), rfl, rfl, by rw [ht]; exact hP9, va_K.moved hW.alike hK9, hD9⟩, hS.F ht⟩) hS.2.2 dX1_told_22
  · skip
    refine lv_iload_n hx hb dX1_told_4 rfl (lv_at hl 2 rfl) ?_
    refine lv_iload_n hx hb dX1_told_5 rfl (lv_at hl 1 rfl) ?_
    have hPc := hP.sub (ws' := []) [] rfl
    have hDc := hD.sub (ws' := []) [] (by decide) rfl
    have hKc := hK.sub (tys' := []) [] rfl
    have hFc := va_free (wc := []) hD hS hA [] rfl
    refine va_calli (va_runS (As := [.int 0]) (rest := [.int v0]) ⟨hx, hb, hml, hown, hts⟩ (k_X1_lengthOn l dC dI   s.heap.size) (va_cwS 1 hts g_X1_told_0 rfl rfl rfl (by decide +kernel) ⟨Nat.le_of_ble_eq_true rfl, Nat.le_of_ble_eq_true rfl⟩) ⟨fun a U g mk q => by obtain ⟨q0, q1, qP, qK, qD⟩ := q; exact ⟨q0, q1, qP, va_K.moved (u := U) (U := U.calling g mk a) (Vm.Alike.refl U.vm) qK, qD⟩, fun U hU hW => ⟨rfl, by rw [hU], by rw [hU]; exact hPc, va_K.moved hW.alike hKc, hDc.weaken (fun _ _ _ _ => trivial)⟩⟩ rfl rfl hl.1 rfl (lv_room (Nat.le_of_ble_eq_true rfl)) dX1_told_6 ⟨Nat.le_of_ble_eq_true rfl, Nat.le_of_ble_eq_true rfl⟩) hS (fun q _ h => hFc q h) hFc (fun ra2 u t H1 locs ht hvm hw hB hz1 hk1 hS => ?_)
    obtain ⟨hP1, hK1, hD1⟩ := hB
    rw [ht] at hP1
    obtain ⟨hP, hD⟩ := va_join (wr := [(h0, .inr (1, [.ref r0]))]) (w1 := []) hP hD [] [0] rfl rfl (by decide) (by decide) hk1 hFc hP1 hD1
    generalize H1 = H at hP hS ⊢
    have hP : va_P (dC, dI) vwCl [(h0, .inr (1, [.ref r0]))] H := hP
    have hD : va_D A [(h0, .inr (1, [.ref r0]))] := hD
    obtain rfl : ra2 = (0 : Int32) := hw
    refine lv_icmp_ge (tgt := 21) hx hb dX1_told_9 (by decide) (fun _ => ?_) (fun c => absurd ((show (0 : Int32) ≤ v0 from Int32.le_iff_toInt_le.mpr (show (0) ≤ v0.toInt by (have t0 : ¬ v0.toInt < (0) := fun h9 => c1 (Int32.lt_iff_toInt_lt.mpr h9); omega)))) c)
    refine lv_iconst (v := (-1)) hx hb dX1_told_21 (by decide) ?_
    have hP9 := hP.sub (ws' := [(h0, .inr (1, [.ref r0]))]) [0] rfl
    have hD9 := hD.sub (ws' := [(h0, .inr (1, [.ref r0]))]) [0] (by decide) rfl
    have hK9 := hK.sub (tys' := []) [] rfl
    exact W.iret (v := (-1)) hx hb hr (fun t ht hW => ⟨⟨(-1), (), rfl, rfl, by rw [ht]; exact hP9, va_K.moved hW.alike hK9, hD9⟩, hS.F ht⟩) hS.2.2 dX1_told_22
def q_X11_log : List Cond := .code yX11_log cX11_log 3 (some .int) :: (([.fieldLink RX11 56 "LeftArguments" "chronicle" "LLeftArguments$Chronicle;", .fieldLink RX11 49 "LeftArguments" "room" "LLeftArguments$Room;", .code yX7_day cX7_day 1 (some .int), .fieldLink RX7 11 "LeftArguments$Room" "cells" "[I", .initialized RX7, .instanceMethod yX7_day, .selects RX7 yX7_day yX7_day, .methodLink RX11 200 yX7_day, .code yX1_told cX1_told 4 (some .int), .code yX1_lengthOn cX1_lengthOn 1 (some .int), .methodLink RX1 25 Lib.Math.min.name, .static Lib.Math.min.name, .initialized "java/lang/Math", .code Lib.Math.min.name Lib.Math.min.code 2 (some .int), .initialized RX1, .static yX1_lengthOn, .methodLink RX1 28 yX1_lengthOn, .instanceMethod yX1_told, .selects RX1 yX1_told yX1_told, .methodLink RX11 209 yX1_told] : List Cond) ++ wsX110 ++ wsX70)
set_option maxRecDepth 20000 in
theorem g_X11_log_0 : GoodIn q_X11_log (wsV RX11 200 RX7 yX7_day q_X7_day) := goodIn_app (goodIn_r _ [8, 6, 7, 5] (by decide +kernel) (by decide +kernel)) (goodIn_ca (goodIn_r (.code yX7_day cX7_day 1 (some .int) :: [.fieldLink RX7 11 "LeftArguments$Room" "cells" "[I"]) [3, 4] (by decide +kernel) (by decide +kernel)) (goodIn_sub (fun _ h => List.mem_cons_of_mem _ (List.mem_append_right _ h)) gwX7))
set_option maxRecDepth 20000 in
theorem g_X11_log_1 : GoodIn q_X11_log (wsV RX11 209 RX1 yX1_told q_X1_told) := goodIn_app (goodIn_r _ [20, 18, 19, 15] (by decide +kernel) (by decide +kernel)) (goodIn_r (.code yX1_told cX1_told 4 (some .int) :: [.code yX1_lengthOn cX1_lengthOn 1 (some .int), .methodLink RX1 25 Lib.Math.min.name, .static Lib.Math.min.name, .initialized "java/lang/Math", .code Lib.Math.min.name Lib.Math.min.code 2 (some .int), .initialized RX1, .static yX1_lengthOn, .methodLink RX1 28 yX1_lengthOn]) [9, 10, 11, 12, 13, 14, 15, 16, 17] (by decide +kernel) (by decide +kernel))
set_option maxHeartbeats 4000000 in
set_option maxRecDepth 100000 in
theorem k_X11_log (l : Launch) (dC : Nat → ClassId) (dI : Nat → Nat → Nat) (g0 : ClassId) (h0 h1 h2 h3 : Nat) (r0 r1 r2 r3 r4 r5 r6 r7 r8 r9 r10 r11 r12 r13 : Nat) (v0 v1 : Int32) (sz : Nat) : Met l yX11_log q_X11_log ({ frames := 3, cells := 0, slots := 0, locals := 56 }) (va_Pc [.ref h0, .int v0, .int v1] (fun U => U.heap.size = sz ∧ va_P (dC, dI) vwCl [(h0, .inr (11, [.ref r0, .ref r1, .ref r2, .ref r3, .ref r4, .ref h1, .ref h3, .ref r5, .ref r6, .ref r7, .ref r8, .ref r9, .ref r10, .ref r11, .int 0, .int 5, .long 0])), (h1, .inr (7, [.ref h2, .ref r12, .int 0, .int 0])), (h2, .inl (g0, 58, .inl (fun _ => 0))), (h3, .inr (1, [.ref r13]))] U.heap ∧ va_K (dC, dI) vwCl [(g0, .int)] U ∧ va_D (fun _ => True) [(h0, .inr (11, [.ref r0, .ref r1, .ref r2, .ref r3, .ref r4, .ref h1, .ref h3, .ref r5, .ref r6, .ref r7, .ref r8, .ref r9, .ref r10, .ref r11, .int 0, .int 5, .long 0])), (h1, .inr (7, [.ref h2, .ref r12, .int 0, .int 0])), (h2, .inl (g0, 58, .inl (fun _ => 0))), (h3, .inr (1, [.ref r13]))])) (va_Qi (fun (r : Int32) (_ : Unit) => r = (-1)) (fun (_ : Unit) (t : State) => va_P (dC, dI) vwCl [(h0, .inr (11, [.ref r0, .ref r1, .ref r2, .ref r3, .ref r4, .ref h1, .ref h3, .ref r5, .ref r6, .ref r7, .ref r8, .ref r9, .ref r10, .ref r11, .int 0, .int 5, .long 0])), (h1, .inr (7, [.ref h2, .ref r12, .int 0, .int 0])), (h2, .inl (g0, 58, .inl (fun _ => 0))), (h3, .inr (1, [.ref r13]))] t.heap ∧ va_K (dC, dI) vwCl [(g0, .int)] t ∧ va_D (va_A [(h0, .inr (11, [.ref r0, .ref r1, .ref r2, .ref r3, .ref r4, .ref h1, .ref h3, .ref r5, .ref r6, .ref r7, .ref r8, .ref r9, .ref r10, .ref r11, .int 0, .int 5, .long 0])), (h1, .inr (7, [.ref h2, .ref r12, .int 0, .int 0])), (h2, .inl (g0, 58, .inl (fun _ => 0))), (h3, .inr (1, [.ref r13]))] sz) [(h0, .inr (11, [.ref r0, .ref r1, .ref r2, .ref r3, .ref r4, .ref h1, .ref h3, .ref r5, .ref r6, .ref r7, .ref r8, .ref r9, .ref r10, .ref r11, .int 0, .int 5, .long 0])), (h1, .inr (7, [.ref h2, .ref r12, .int 0, .int 0])), (h2, .inl (g0, 58, .inl (fun _ => 0))), (h3, .inr (1, [.ref r13]))]) (va_A [(h0, .inr (11, [.ref r0, .ref r1, .ref r2, .ref r3, .ref r4, .ref h1, .ref h3, .ref r5, .ref r6, .ref r7, .ref r8, .ref r9, .ref r10, .ref r11, .int 0, .int 5, .long 0])), (h1, .inr (7, [.ref h2, .ref r12, .int 0, .int 0])), (h2, .inl (g0, 58, .inl (fun _ => 0))), (h3, .inr (1, [.ref r13]))] sz)) 0 0 (va_A [(h0, .inr (11, [.ref r0, .ref r1, .ref r2, .ref r3, .ref r4, .ref h1, .ref h3, .ref r5, .ref r6, .ref r7, .ref r8, .ref r9, .ref r10, .ref r11, .int 0, .int 5, .long 0])), (h1, .inr (7, [.ref h2, .ref r12, .int 0, .int 0])), (h2, .inl (g0, 58, .inl (fun _ => 0))), (h3, .inr (1, [.ref r13]))] sz) := by
  refine Met.ofW (cc := cX11_log) (maxL := 3) (ret := (some .int)) (by decide) rfl ?_
  intro p e s m args below meth c s₁ B hml hv
  obtain ⟨rfl, hsz, hP, hK, hD0⟩ := hv
  have hx := B.exec
  have hb := B.bytes
  have hr := B.returns
  have hts := atoms_spec (ws := q_X11_log) B.pre
  have hown : s.vm.findClass RX11 = some m.cls := findClass_of_methodNamed B.named
  have hlocks := B.notSynchronized
  subst hsz
  have hD := hD0.self (sz := s.heap.size)
  generalize hAe : va_A [(h0, .inr (11, [.ref r0, .ref r1, .ref r2, .ref r3, .ref r4, .ref h1, .ref h3, .ref r5, .ref r6, .ref r7, .ref r8, .ref r9, .ref r10, .ref r11, .int 0, .int 5, .long 0])), (h1, .inr (7, [.ref h2, .ref r12, .int 0, .int 0])), (h2, .inl (g0, 58, .inl (fun _ => 0))), (h3, .inr (1, [.ref r13]))] s.heap.size = A at hD ⊢
  have hA : ∀ q : Nat, s.heap.size ≤ q → A q := fun q h => by rw [← hAe]; exact Or.inr h
  have hS : va_S A s.heap s.heap [] := va_S.rf
  have hl := lv_entry ([.ref h0, .int v0, .int v1]) (n := 3) (Nat.le_of_ble_eq_true rfl)
  rw [lg_entry_eq]
  generalize (lg_sl ([.ref h0, .int v0, .int v1]) ++ List.replicate (3 - (lg_sl ([.ref h0, .int v0, .int v1])).length) Slot.unset).toArray = ls at hl ⊢
  have hl : lv_has ls 3 [(0, .ref h0), (1, .int v0), (2, .int v1)] := hl
  refine lv_aload_n hx hb dX11_log_0 rfl (lv_at hl 0 rfl) ?_
  refine va_get (D := (dC, dI)) (ci := 11) (v := .ref h3) (C := RX11) (T := TX11) (N := 17) hx hb hts (fun _ h => List.mem_cons_of_mem _ (List.mem_append_left _ (List.mem_append_right _ h))) hown hK hP 0 rfl rfl 6 (by decide) (hts (.fieldLink RX11 56 "LeftArguments" "chronicle" "LLeftArguments$Chronicle;") (List.mem_cons_of_mem _ (List.mem_append_left _ (List.mem_append_left _ (List.mem_of_getElem? (i := 0) rfl))))) (fun _ h9 => h9) rfl dX11_log_1 ?_
  refine lv_aload_n hx hb dX11_log_4 rfl (lv_at hl 0 rfl) ?_
  refine va_get (D := (dC, dI)) (ci := 11) (v := .ref h1) (C := RX11) (T := TX11) (N := 17) hx hb hts (fun _ h => List.mem_cons_of_mem _ (List.mem_append_left _ (List.mem_append_right _ h))) hown hK hP 0 rfl rfl 5 (by decide) (hts (.fieldLink RX11 49 "LeftArguments" "room" "LLeftArguments$Room;") (List.mem_cons_of_mem _ (List.mem_append_left _ (List.mem_append_left _ (List.mem_of_getElem? (i := 1) rfl))))) (fun _ h9 => h9) rfl dX11_log_5 ?_
  have hPc := hP.sub (ws' := [(h1, .inr (7, [.ref h2, .ref r12, .int 0, .int 0])), (h2, .inl (g0, 58, .inl (fun _ => 0)))]) [1, 2] rfl
  have hDc := hD.sub (ws' := [(h1, .inr (7, [.ref h2, .ref r12, .int 0, .int 0])), (h2, .inl (g0, 58, .inl (fun _ => 0)))]) [1, 2] (by decide) rfl
  have hKc := hK.sub (tys' := [(g0, .int)]) [0] rfl
  have hFc := va_free (wc := [(h1, .inr (7, [.ref h2, .ref r12, .int 0, .int 0])), (h2, .inl (g0, 58, .inl (fun _ => 0)))]) hD hS hA [1, 2] rfl
  refine va_calli (va_runV (As := []) (rest := [.ref h3]) ⟨hx, hb, hml, hown, hts⟩ (k_X7_day l dC dI g0 h1 h2 r12  s.heap.size) (cwV 0 hts g_X11_log_0 rfl rfl rfl (by decide +kernel) ⟨Nat.le_of_ble_eq_true rfl, Nat.le_of_ble_eq_true rfl⟩) ⟨fun a U g mk q => by obtain ⟨q0, q1, qP, qK, qD⟩ := q; exact ⟨q0, q1, qP, va_K.moved (u := U) (U := U.calling g mk a) (Vm.Alike.refl U.vm) qK, qD⟩, va_recv hKc hPc (ci := 7) (q0 := 0) rfl rfl, fun U hU hW => ⟨rfl, by rw [hU], by rw [hU]; exact hPc, va_K.moved hW.alike hKc, hDc.weaken (fun _ _ _ _ => trivial)⟩⟩ rfl rfl hl.1 rfl (lv_room (Nat.le_of_ble_eq_true rfl)) dX11_log_8 ⟨Nat.le_of_ble_eq_true rfl, Nat.le_of_ble_eq_true rfl⟩) hS (fun q _ h => hFc q h) hFc (fun ra1 u t H1 locs ht hvm hw hB hz1 hk1 hS => ?_)
  obtain ⟨hP1, hK1, hD1⟩ := hB
  rw [ht] at hP1
  obtain ⟨hP, hD⟩ := va_join (wr := [(h0, .inr (11, [.ref r0, .ref r1, .ref r2, .ref r3, .ref r4, .ref h1, .ref h3, .ref r5, .ref r6, .ref r7, .ref r8, .ref r9, .ref r10, .ref r11, .int 0, .int 5, .long 0])), (h3, .inr (1, [.ref r13]))]) (w1 := [(h1, .inr (7, [.ref h2, .ref r12, .int 0, .int 0])), (h2, .inl (g0, 58, .inl (fun _ => 0)))]) hP hD [1, 2] [0, 3] rfl rfl (by decide) (by decide) hk1 hFc hP1 hD1
  generalize H1 = H at hP hS ⊢
  have hP : va_P (dC, dI) vwCl [(h0, .inr (11, [.ref r0, .ref r1, .ref r2, .ref r3, .ref r4, .ref h1, .ref h3, .ref r5, .ref r6, .ref r7, .ref r8, .ref r9, .ref r10, .ref r11, .int 0, .int 5, .long 0])), (h3, .inr (1, [.ref r13])), (h1, .inr (7, [.ref h2, .ref r12, .int 0, .int 0])), (h2, .inl (g0, 58, .inl (fun _ => 0)))] H := hP
  have hD : va_D A [(h0, .inr (11, [.ref r0, .ref r1, .ref r2, .ref r3, .ref r4, .ref h1, .ref h3, .ref r5, .ref r6, .ref r7, .ref r8, .ref r9, .ref r10, .ref r11, .int 0, .int 5, .long 0])), (h3, .inr (1, [.ref r13])), (h1, .inr (7, [.ref h2, .ref r12, .int 0, .int 0])), (h2, .inl (g0, 58, .inl (fun _ => 0)))] := hD
  obtain rfl : ra1 = (0 : Int32) := hw
  refine lv_iload_n hx hb dX11_log_11 rfl (lv_at hl 1 rfl) ?_
  refine lv_iload_n hx hb dX11_log_12 rfl (lv_at hl 2 rfl) ?_
  have hPc := hP.sub (ws' := [(h3, .inr (1, [.ref r13]))]) [1] rfl
  have hDc := hD.sub (ws' := [(h3, .inr (1, [.ref r13]))]) [1] (by decide) rfl
  have hKc := hK.sub (tys' := []) [] rfl
  have hFc := va_free (wc := [(h3, .inr (1, [.ref r13]))]) hD hS hA [1] rfl
  refine va_calli (va_runV (As := [.int 0, .int v0, .int v1]) (rest := []) ⟨hx, hb, hml, hown, hts⟩ (k_X1_told l dC dI h3 r13 v0 v1  H.size) (cwV 3 hts g_X11_log_1 rfl rfl rfl (by decide +kernel) ⟨Nat.le_of_ble_eq_true rfl, Nat.le_of_ble_eq_true rfl⟩) ⟨fun a U g mk q => by obtain ⟨q0, q1, qP, qK, qD⟩ := q; exact ⟨q0, q1, qP, va_K.moved (u := U) (U := U.calling g mk a) (Vm.Alike.refl U.vm) qK, qD⟩, va_recv hKc hPc (ci := 1) (q0 := 0) rfl rfl, fun U hU hW => ⟨rfl, by rw [hU], by rw [hU]; exact hPc, va_K.moved hW.alike hKc, hDc.weaken (fun _ _ _ _ => trivial)⟩⟩ rfl rfl hl.1 rfl (lv_room (Nat.le_of_ble_eq_true rfl)) dX11_log_13 ⟨Nat.le_of_ble_eq_true rfl, Nat.le_of_ble_eq_true rfl⟩) hS (fun q _ h => hFc q h) hFc (fun ra2 u t H1 locs ht hvm hw hB hz1 hk1 hS => ?_)
  obtain ⟨hP1, hK1, hD1⟩ := hB
  rw [ht] at hP1
  obtain ⟨hP, hD⟩ := va_join (wr := [(h0, .inr (11, [.ref r0, .ref r1, .ref r2, .ref r3, .ref r4, .ref h1, .ref h3, .ref r5, .ref r6, .ref r7, .ref r8, .ref r9, .ref r10, .ref r11, .int 0, .int 5, .long 0])), (h1, .inr (7, [.ref h2, .ref r12, .int 0, .int 0])), (h2, .inl (g0, 58, .inl (fun _ => 0)))]) (w1 := [(h3, .inr (1, [.ref r13]))]) hP hD [1] [0, 2, 3] rfl rfl (by decide) (by decide) hk1 hFc hP1 hD1
  generalize H1 = H at hP hS ⊢
  have hP : va_P (dC, dI) vwCl [(h0, .inr (11, [.ref r0, .ref r1, .ref r2, .ref r3, .ref r4, .ref h1, .ref h3, .ref r5, .ref r6, .ref r7, .ref r8, .ref r9, .ref r10, .ref r11, .int 0, .int 5, .long 0])), (h1, .inr (7, [.ref h2, .ref r12, .int 0, .int 0])), (h2, .inl (g0, 58, .inl (fun _ => 0))), (h3, .inr (1, [.ref r13]))] H := hP
  have hD : va_D A [(h0, .inr (11, [.ref r0, .ref r1, .ref r2, .ref r3, .ref r4, .ref h1, .ref h3, .ref r5, .ref r6, .ref r7, .ref r8, .ref r9, .ref r10, .ref r11, .int 0, .int 5, .long 0])), (h1, .inr (7, [.ref h2, .ref r12, .int 0, .int 0])), (h2, .inl (g0, 58, .inl (fun _ => 0))), (h3, .inr (1, [.ref r13]))] := hD
  obtain rfl : ra2 = ((-1) : Int32) := hw
  have hP9 := hP.sub (ws' := [(h0, .inr (11, [.ref r0, .ref r1, .ref r2, .ref r3, .ref r4, .ref h1, .ref h3, .ref r5, .ref r6, .ref r7, .ref r8, .ref r9, .ref r10, .ref r11, .int 0, .int 5, .long 0])), (h1, .inr (7, [.ref h2, .ref r12, .int 0, .int 0])), (h2, .inl (g0, 58, .inl (fun _ => 0))), (h3, .inr (1, [.ref r13]))]) [0, 1, 2, 3] rfl
  have hD9 := hD.sub (ws' := [(h0, .inr (11, [.ref r0, .ref r1, .ref r2, .ref r3, .ref r4, .ref h1, .ref h3, .ref r5, .ref r6, .ref r7, .ref r8, .ref r9, .ref r10, .ref r11, .int 0, .int 5, .long 0])), (h1, .inr (7, [.ref h2, .ref r12, .int 0, .int 0])), (h2, .inl (g0, 58, .inl (fun _ => 0))), (h3, .inr (1, [.ref r13]))]) [0, 1, 2, 3] (by decide) rfl
  have hK9 := hK.sub (tys' := [(g0, .int)]) [0] rfl
  exact W.iret (v := (-1)) hx hb hr (fun t ht hW => ⟨⟨(-1), (), rfl, rfl, by rw [ht]; exact hP9, va_K.moved hW.alike hK9, hD9⟩, hS.F ht⟩) hS.2.2 dX11_log_16
def q_X11_large : List Cond := .code yX11_large cX11_large 3 (some .int) :: (([.fieldLink RX11 49 "LeftArguments" "room" "LLeftArguments$Room;", .code yX7_has cX7_has 2 (some .boolean), .fieldLink RX7 11 "LeftArguments$Room" "cells" "[I", .initialized RX7, .instanceMethod yX7_has, .selects RX7 yX7_has yX7_has, .methodLink RX11 169 yX7_has] : List Cond) ++ wsX110 ++ wsX70)
set_option maxRecDepth 20000 in
theorem g_X11_large_0 : GoodIn q_X11_large (wsV RX11 169 RX7 yX7_has q_X7_has) := goodIn_app (goodIn_r _ [7, 5, 6, 4] (by decide +kernel) (by decide +kernel)) (goodIn_ca (goodIn_r (.code yX7_has cX7_has 2 (some .boolean) :: [.fieldLink RX7 11 "LeftArguments$Room" "cells" "[I"]) [2, 3] (by decide +kernel) (by decide +kernel)) (goodIn_sub (fun _ h => List.mem_cons_of_mem _ (List.mem_append_right _ h)) gwX7))
set_option maxHeartbeats 4000000 in
set_option maxRecDepth 100000 in
theorem k_X11_large (l : Launch) (dC : Nat → ClassId) (dI : Nat → Nat → Nat) (g0 : ClassId) (h0 h1 h2 : Nat) (r0 r1 r2 r3 r4 r5 r6 r7 r8 r9 r10 r11 r12 r13 : Nat) (v0 v1 : Int32) (sz : Nat) : Met l yX11_large q_X11_large ({ frames := 1, cells := 0, slots := 0, locals := 21 }) (va_Pc [.ref h0, .int v0, .int v1] (fun U => U.heap.size = sz ∧ va_P (dC, dI) vwCl [(h0, .inr (11, [.ref r0, .ref r1, .ref r2, .ref r3, .ref r4, .ref h1, .ref r5, .ref r6, .ref r7, .ref r8, .ref r9, .ref r10, .ref r11, .ref r12, .int 0, .int 5, .long 0])), (h1, .inr (7, [.ref h2, .ref r13, .int 0, .int 0])), (h2, .inl (g0, 58, .inl (fun _ => 0)))] U.heap ∧ va_K (dC, dI) vwCl [(g0, .int)] U ∧ va_D (fun _ => True) [(h0, .inr (11, [.ref r0, .ref r1, .ref r2, .ref r3, .ref r4, .ref h1, .ref r5, .ref r6, .ref r7, .ref r8, .ref r9, .ref r10, .ref r11, .ref r12, .int 0, .int 5, .long 0])), (h1, .inr (7, [.ref h2, .ref r13, .int 0, .int 0])), (h2, .inl (g0, 58, .inl (fun _ => 0)))])) (va_Qi (fun (r : Int32) (_ : Unit) => r = (-1)) (fun (_ : Unit) (t : State) => va_P (dC, dI) vwCl [(h0, .inr (11, [.ref r0, .ref r1, .ref r2, .ref r3, .ref r4, .ref h1, .ref r5, .ref r6, .ref r7, .ref r8, .ref r9, .ref r10, .ref r11, .ref r12, .int 0, .int 5, .long 0])), (h1, .inr (7, [.ref h2, .ref r13, .int 0, .int 0])), (h2, .inl (g0, 58, .inl (fun _ => 0)))] t.heap ∧ va_K (dC, dI) vwCl [(g0, .int)] t ∧ va_D (va_A [(h0, .inr (11, [.ref r0, .ref r1, .ref r2, .ref r3, .ref r4, .ref h1, .ref r5, .ref r6, .ref r7, .ref r8, .ref r9, .ref r10, .ref r11, .ref r12, .int 0, .int 5, .long 0])), (h1, .inr (7, [.ref h2, .ref r13, .int 0, .int 0])), (h2, .inl (g0, 58, .inl (fun _ => 0)))] sz) [(h0, .inr (11, [.ref r0, .ref r1, .ref r2, .ref r3, .ref r4, .ref h1, .ref r5, .ref r6, .ref r7, .ref r8, .ref r9, .ref r10, .ref r11, .ref r12, .int 0, .int 5, .long 0])), (h1, .inr (7, [.ref h2, .ref r13, .int 0, .int 0])), (h2, .inl (g0, 58, .inl (fun _ => 0)))]) (va_A [(h0, .inr (11, [.ref r0, .ref r1, .ref r2, .ref r3, .ref r4, .ref h1, .ref r5, .ref r6, .ref r7, .ref r8, .ref r9, .ref r10, .ref r11, .ref r12, .int 0, .int 5, .long 0])), (h1, .inr (7, [.ref h2, .ref r13, .int 0, .int 0])), (h2, .inl (g0, 58, .inl (fun _ => 0)))] sz)) 0 0 (va_A [(h0, .inr (11, [.ref r0, .ref r1, .ref r2, .ref r3, .ref r4, .ref h1, .ref r5, .ref r6, .ref r7, .ref r8, .ref r9, .ref r10, .ref r11, .ref r12, .int 0, .int 5, .long 0])), (h1, .inr (7, [.ref h2, .ref r13, .int 0, .int 0])), (h2, .inl (g0, 58, .inl (fun _ => 0)))] sz) := by
  refine Met.ofW (cc := cX11_large) (maxL := 3) (ret := (some .int)) (by decide) rfl ?_
  intro p e s m args below meth c s₁ B hml hv
  obtain ⟨rfl, hsz, hP, hK, hD0⟩ := hv
  have hx := B.exec
  have hb := B.bytes
  have hr := B.returns
  have hts := atoms_spec (ws := q_X11_large) B.pre
  have hown : s.vm.findClass RX11 = some m.cls := findClass_of_methodNamed B.named
  have hlocks := B.notSynchronized
  subst hsz
  have hD := hD0.self (sz := s.heap.size)
  generalize hAe : va_A [(h0, .inr (11, [.ref r0, .ref r1, .ref r2, .ref r3, .ref r4, .ref h1, .ref r5, .ref r6, .ref r7, .ref r8, .ref r9, .ref r10, .ref r11, .ref r12, .int 0, .int 5, .long 0])), (h1, .inr (7, [.ref h2, .ref r13, .int 0, .int 0])), (h2, .inl (g0, 58, .inl (fun _ => 0)))] s.heap.size = A at hD ⊢
  have hA : ∀ q : Nat, s.heap.size ≤ q → A q := fun q h => by rw [← hAe]; exact Or.inr h
  have hS : va_S A s.heap s.heap [] := va_S.rf
  have hl := lv_entry ([.ref h0, .int v0, .int v1]) (n := 3) (Nat.le_of_ble_eq_true rfl)
  rw [lg_entry_eq]
  generalize (lg_sl ([.ref h0, .int v0, .int v1]) ++ List.replicate (3 - (lg_sl ([.ref h0, .int v0, .int v1])).length) Slot.unset).toArray = ls at hl ⊢
  have hl : lv_has ls 3 [(0, .ref h0), (1, .int v0), (2, .int v1)] := hl
  refine lv_aload_n hx hb dX11_large_0 rfl (lv_at hl 0 rfl) ?_
  refine va_get (D := (dC, dI)) (ci := 11) (v := .ref h1) (C := RX11) (T := TX11) (N := 17) hx hb hts (fun _ h => List.mem_cons_of_mem _ (List.mem_append_left _ (List.mem_append_right _ h))) hown hK hP 0 rfl rfl 5 (by decide) (hts (.fieldLink RX11 49 "LeftArguments" "room" "LLeftArguments$Room;") (List.mem_cons_of_mem _ (List.mem_append_left _ (List.mem_append_left _ (List.mem_of_getElem? (i := 0) rfl))))) (fun _ h9 => h9) rfl dX11_large_1 ?_
  refine lv_iload_n hx hb dX11_large_4 rfl (lv_at hl 1 rfl) ?_
  have hPc := hP.sub (ws' := [(h1, .inr (7, [.ref h2, .ref r13, .int 0, .int 0])), (h2, .inl (g0, 58, .inl (fun _ => 0)))]) [1, 2] rfl
  have hDc := hD.sub (ws' := [(h1, .inr (7, [.ref h2, .ref r13, .int 0, .int 0])), (h2, .inl (g0, 58, .inl (fun _ => 0)))]) [1, 2] (by decide) rfl
  have hKc := hK.sub (tys' := [(g0, .int)]) [0] rfl
  have hFc := va_free (wc := [(h1, .inr (7, [.ref h2, .ref r13, .int 0, .int 0])), (h2, .inl (g0, 58, .inl (fun _ => 0)))]) hD hS hA [1, 2] rfl
  refine va_calli (va_runV (As := [.int v0]) (rest := []) ⟨hx, hb, hml, hown, hts⟩ (k_X7_has l dC dI g0 h1 h2 r13 v0  s.heap.size) (cwV 1 hts g_X11_large_0 rfl rfl rfl (by decide +kernel) ⟨Nat.le_of_ble_eq_true rfl, Nat.le_of_ble_eq_true rfl⟩) ⟨fun a U g mk q => by obtain ⟨q0, q1, qP, qK, qD⟩ := q; exact ⟨q0, q1, qP, va_K.moved (u := U) (U := U.calling g mk a) (Vm.Alike.refl U.vm) qK, qD⟩, va_recv hKc hPc (ci := 7) (q0 := 0) rfl rfl, fun U hU hW => ⟨rfl, by rw [hU], by rw [hU]; exact hPc, va_K.moved hW.alike hKc, hDc.weaken (fun _ _ _ _ => trivial)⟩⟩ rfl rfl hl.1 rfl (lv_room (Nat.le_of_ble_eq_true rfl)) dX11_large_5 ⟨Nat.le_of_ble_eq_true rfl, Nat.le_of_ble_eq_true rfl⟩) hS (fun q _ h => hFc q h) hFc (fun ra1 u t H1 locs ht hvm hw hB hz1 hk1 hS => ?_)
  obtain ⟨hP1, hK1, hD1⟩ := hB
  rw [ht] at hP1
  obtain ⟨hP, hD⟩ := va_join (wr := [(h0, .inr (11, [.ref r0, .ref r1, .ref r2, .ref r3, .ref r4, .ref h1, .ref r5, .ref r6, .ref r7, .ref r8, .ref r9, .ref r10, .ref r11, .ref r12, .int 0, .int 5, .long 0]))]) (w1 := [(h1, .inr (7, [.ref h2, .ref r13, .int 0, .int 0])), (h2, .inl (g0, 58, .inl (fun _ => 0)))]) hP hD [1, 2] [0] rfl rfl (by decide) (by decide) hk1 hFc hP1 hD1
  generalize H1 = H at hP hS ⊢
  have hP : va_P (dC, dI) vwCl [(h0, .inr (11, [.ref r0, .ref r1, .ref r2, .ref r3, .ref r4, .ref h1, .ref r5, .ref r6, .ref r7, .ref r8, .ref r9, .ref r10, .ref r11, .ref r12, .int 0, .int 5, .long 0])), (h1, .inr (7, [.ref h2, .ref r13, .int 0, .int 0])), (h2, .inl (g0, 58, .inl (fun _ => 0)))] H := hP
  have hD : va_D A [(h0, .inr (11, [.ref r0, .ref r1, .ref r2, .ref r3, .ref r4, .ref h1, .ref r5, .ref r6, .ref r7, .ref r8, .ref r9, .ref r10, .ref r11, .ref r12, .int 0, .int 5, .long 0])), (h1, .inr (7, [.ref h2, .ref r13, .int 0, .int 0])), (h2, .inl (g0, 58, .inl (fun _ => 0)))] := hD
  obtain rfl : ra1 = (0 : Int32) := hw
  refine lv_if_eq (tgt := 21) hx hb dX11_large_8 (by decide) (fun _ => ?_) (fun c => absurd (by decide) c)
  refine lv_iconst (v := (-1)) hx hb dX11_large_21 (by decide) ?_
  refine lv_goto (tgt := 38) hx hb dX11_large_22 (by decide) ?_
  have hP9 := hP.sub (ws' := [(h0, .inr (11, [.ref r0, .ref r1, .ref r2, .ref r3, .ref r4, .ref h1, .ref r5, .ref r6, .ref r7, .ref r8, .ref r9, .ref r10, .ref r11, .ref r12, .int 0, .int 5, .long 0])), (h1, .inr (7, [.ref h2, .ref r13, .int 0, .int 0])), (h2, .inl (g0, 58, .inl (fun _ => 0)))]) [0, 1, 2] rfl
  have hD9 := hD.sub (ws' := [(h0, .inr (11, [.ref r0, .ref r1, .ref r2, .ref r3, .ref r4, .ref h1, .ref r5, .ref r6, .ref r7, .ref r8, .ref r9, .ref r10, .ref r11, .ref r12, .int 0, .int 5, .long 0])), (h1, .inr (7, [.ref h2, .ref r13, .int 0, .int 0])), (h2, .inl (g0, 58, .inl (fun _ => 0)))]) [0, 1, 2] (by decide) rfl
  have hK9 := hK.sub (tys' := [(g0, .int)]) [0] rfl
  exact W.iret (v := (-1)) hx hb hr (fun t ht hW => ⟨⟨(-1), (), rfl, rfl, by rw [ht]; exact hP9, va_K.moved hW.alike hK9, hD9⟩, hS.F ht⟩) hS.2.2 dX11_large_38
def q_X11_ends : List Cond := .code yX11_ends cX11_ends 2 (some .int) :: (([.fieldLink RX11 49 "LeftArguments" "room" "LLeftArguments$Room;", .code yX7_has cX7_has 2 (some .boolean), .fieldLink RX7 11 "LeftArguments$Room" "cells" "[I", .initialized RX7, .instanceMethod yX7_has, .selects RX7 yX7_has yX7_has, .methodLink RX11 169 yX7_has] : List Cond) ++ wsX110 ++ wsX70)
set_option maxRecDepth 20000 in
theorem g_X11_ends_0 : GoodIn q_X11_ends (wsV RX11 169 RX7 yX7_has q_X7_has) := goodIn_app (goodIn_r _ [7, 5, 6, 4] (by decide +kernel) (by decide +kernel)) (goodIn_ca (goodIn_r (.code yX7_has cX7_has 2 (some .boolean) :: [.fieldLink RX7 11 "LeftArguments$Room" "cells" "[I"]) [2, 3] (by decide +kernel) (by decide +kernel)) (goodIn_sub (fun _ h => List.mem_cons_of_mem _ (List.mem_append_right _ h)) gwX7))
set_option maxHeartbeats 4000000 in
set_option maxRecDepth 100000 in
theorem k_X11_ends (l : Launch) (dC : Nat → ClassId) (dI : Nat → Nat → Nat) (g0 : ClassId) (h0 h1 h2 : Nat) (r0 r1 r2 r3 r4 r5 r6 r7 r8 r9 r10 r11 r12 r13 : Nat) (v0 : Int32) (sz : Nat) : Met l yX11_ends q_X11_ends ({ frames := 1, cells := 0, slots := 0, locals := 21 }) (va_Pc [.ref h0, .int v0] (fun U => U.heap.size = sz ∧ va_P (dC, dI) vwCl [(h0, .inr (11, [.ref r0, .ref r1, .ref r2, .ref r3, .ref r4, .ref h1, .ref r5, .ref r6, .ref r7, .ref r8, .ref r9, .ref r10, .ref r11, .ref r12, .int 0, .int 5, .long 0])), (h1, .inr (7, [.ref h2, .ref r13, .int 0, .int 0])), (h2, .inl (g0, 58, .inl (fun _ => 0)))] U.heap ∧ va_K (dC, dI) vwCl [(g0, .int)] U ∧ va_D (fun _ => True) [(h0, .inr (11, [.ref r0, .ref r1, .ref r2, .ref r3, .ref r4, .ref h1, .ref r5, .ref r6, .ref r7, .ref r8, .ref r9, .ref r10, .ref r11, .ref r12, .int 0, .int 5, .long 0])), (h1, .inr (7, [.ref h2, .ref r13, .int 0, .int 0])), (h2, .inl (g0, 58, .inl (fun _ => 0)))])) (va_Qi (fun (r : Int32) (_ : Unit) => r = (-1)) (fun (_ : Unit) (t : State) => va_P (dC, dI) vwCl [(h0, .inr (11, [.ref r0, .ref r1, .ref r2, .ref r3, .ref r4, .ref h1, .ref r5, .ref r6, .ref r7, .ref r8, .ref r9, .ref r10, .ref r11, .ref r12, .int 0, .int 5, .long 0])), (h1, .inr (7, [.ref h2, .ref r13, .int 0, .int 0])), (h2, .inl (g0, 58, .inl (fun _ => 0)))] t.heap ∧ va_K (dC, dI) vwCl [(g0, .int)] t ∧ va_D (va_A [(h0, .inr (11, [.ref r0, .ref r1, .ref r2, .ref r3, .ref r4, .ref h1, .ref r5, .ref r6, .ref r7, .ref r8, .ref r9, .ref r10, .ref r11, .ref r12, .int 0, .int 5, .long 0])), (h1, .inr (7, [.ref h2, .ref r13, .int 0, .int 0])), (h2, .inl (g0, 58, .inl (fun _ => 0)))] sz) [(h0, .inr (11, [.ref r0, .ref r1, .ref r2, .ref r3, .ref r4, .ref h1, .ref r5, .ref r6, .ref r7, .ref r8, .ref r9, .ref r10, .ref r11, .ref r12, .int 0, .int 5, .long 0])), (h1, .inr (7, [.ref h2, .ref r13, .int 0, .int 0])), (h2, .inl (g0, 58, .inl (fun _ => 0)))]) (va_A [(h0, .inr (11, [.ref r0, .ref r1, .ref r2, .ref r3, .ref r4, .ref h1, .ref r5, .ref r6, .ref r7, .ref r8, .ref r9, .ref r10, .ref r11, .ref r12, .int 0, .int 5, .long 0])), (h1, .inr (7, [.ref h2, .ref r13, .int 0, .int 0])), (h2, .inl (g0, 58, .inl (fun _ => 0)))] sz)) 0 0 (va_A [(h0, .inr (11, [.ref r0, .ref r1, .ref r2, .ref r3, .ref r4, .ref h1, .ref r5, .ref r6, .ref r7, .ref r8, .ref r9, .ref r10, .ref r11, .ref r12, .int 0, .int 5, .long 0])), (h1, .inr (7, [.ref h2, .ref r13, .int 0, .int 0])), (h2, .inl (g0, 58, .inl (fun _ => 0)))] sz) := by
  refine Met.ofW (cc := cX11_ends) (maxL := 2) (ret := (some .int)) (by decide) rfl ?_
  intro p e s m args below meth c s₁ B hml hv
  obtain ⟨rfl, hsz, hP, hK, hD0⟩ := hv
  have hx := B.exec
  have hb := B.bytes
  have hr := B.returns
  have hts := atoms_spec (ws := q_X11_ends) B.pre
  have hown : s.vm.findClass RX11 = some m.cls := findClass_of_methodNamed B.named
  have hlocks := B.notSynchronized
  subst hsz
  have hD := hD0.self (sz := s.heap.size)
  generalize hAe : va_A [(h0, .inr (11, [.ref r0, .ref r1, .ref r2, .ref r3, .ref r4, .ref h1, .ref r5, .ref r6, .ref r7, .ref r8, .ref r9, .ref r10, .ref r11, .ref r12, .int 0, .int 5, .long 0])), (h1, .inr (7, [.ref h2, .ref r13, .int 0, .int 0])), (h2, .inl (g0, 58, .inl (fun _ => 0)))] s.heap.size = A at hD ⊢
  have hA : ∀ q : Nat, s.heap.size ≤ q → A q := fun q h => by rw [← hAe]; exact Or.inr h
  have hS : va_S A s.heap s.heap [] := va_S.rf
  have hl := lv_entry ([.ref h0, .int v0]) (n := 2) (Nat.le_of_ble_eq_true rfl)
  rw [lg_entry_eq]
  generalize (lg_sl ([.ref h0, .int v0]) ++ List.replicate (2 - (lg_sl ([.ref h0, .int v0])).length) Slot.unset).toArray = ls at hl ⊢
  have hl : lv_has ls 2 [(0, .ref h0), (1, .int v0)] := hl
  refine lv_aload_n hx hb dX11_ends_0 rfl (lv_at hl 0 rfl) ?_
  refine va_get (D := (dC, dI)) (ci := 11) (v := .ref h1) (C := RX11) (T := TX11) (N := 17) hx hb hts (fun _ h => List.mem_cons_of_mem _ (List.mem_append_left _ (List.mem_append_right _ h))) hown hK hP 0 rfl rfl 5 (by decide) (hts (.fieldLink RX11 49 "LeftArguments" "room" "LLeftArguments$Room;") (List.mem_cons_of_mem _ (List.mem_append_left _ (List.mem_append_left _ (List.mem_of_getElem? (i := 0) rfl))))) (fun _ h9 => h9) rfl dX11_ends_1 ?_
  refine lv_iload_n hx hb dX11_ends_4 rfl (lv_at hl 1 rfl) ?_
  have hPc := hP.sub (ws' := [(h1, .inr (7, [.ref h2, .ref r13, .int 0, .int 0])), (h2, .inl (g0, 58, .inl (fun _ => 0)))]) [1, 2] rfl
  have hDc := hD.sub (ws' := [(h1, .inr (7, [.ref h2, .ref r13, .int 0, .int 0])), (h2, .inl (g0, 58, .inl (fun _ => 0)))]) [1, 2] (by decide) rfl
  have hKc := hK.sub (tys' := [(g0, .int)]) [0] rfl
  have hFc := va_free (wc := [(h1, .inr (7, [.ref h2, .ref r13, .int 0, .int 0])), (h2, .inl (g0, 58, .inl (fun _ => 0)))]) hD hS hA [1, 2] rfl
  refine va_calli (va_runV (As := [.int v0]) (rest := []) ⟨hx, hb, hml, hown, hts⟩ (k_X7_has l dC dI g0 h1 h2 r13 v0  s.heap.size) (cwV 1 hts g_X11_ends_0 rfl rfl rfl (by decide +kernel) ⟨Nat.le_of_ble_eq_true rfl, Nat.le_of_ble_eq_true rfl⟩) ⟨fun a U g mk q => by obtain ⟨q0, q1, qP, qK, qD⟩ := q; exact ⟨q0, q1, qP, va_K.moved (u := U) (U := U.calling g mk a) (Vm.Alike.refl U.vm) qK, qD⟩, va_recv hKc hPc (ci := 7) (q0 := 0) rfl rfl, fun U hU hW => ⟨rfl, by rw [hU], by rw [hU]; exact hPc, va_K.moved hW.alike hKc, hDc.weaken (fun _ _ _ _ => trivial)⟩⟩ rfl rfl hl.1 rfl (lv_room (Nat.le_of_ble_eq_true rfl)) dX11_ends_5 ⟨Nat.le_of_ble_eq_true rfl, Nat.le_of_ble_eq_true rfl⟩) hS (fun q _ h => hFc q h) hFc (fun ra1 u t H1 locs ht hvm hw hB hz1 hk1 hS => ?_)
  obtain ⟨hP1, hK1, hD1⟩ := hB
  rw [ht] at hP1
  obtain ⟨hP, hD⟩ := va_join (wr := [(h0, .inr (11, [.ref r0, .ref r1, .ref r2, .ref r3, .ref r4, .ref h1, .ref r5, .ref r6, .ref r7, .ref r8, .ref r9, .ref r10, .ref r11, .ref r12, .int 0, .int 5, .long 0]))]) (w1 := [(h1, .inr (7, [.ref h2, .ref r13, .int 0, .int 0])), (h2, .inl (g0, 58, .inl (fun _ => 0)))]) hP hD [1, 2] [0] rfl rfl (by decide) (by decide) hk1 hFc hP1 hD1
  generalize H1 = H at hP hS ⊢
  have hP : va_P (dC, dI) vwCl [(h0, .inr (11, [.ref r0, .ref r1, .ref r2, .ref r3, .ref r4, .ref h1, .ref r5, .ref r6, .ref r7, .ref r8, .ref r9, .ref r10, .ref r11, .ref r12, .int 0, .int 5, .long 0])), (h1, .inr (7, [.ref h2, .ref r13, .int 0, .int 0])), (h2, .inl (g0, 58, .inl (fun _ => 0)))] H := hP
  have hD : va_D A [(h0, .inr (11, [.ref r0, .ref r1, .ref r2, .ref r3, .ref r4, .ref h1, .ref r5, .ref r6, .ref r7, .ref r8, .ref r9, .ref r10, .ref r11, .ref r12, .int 0, .int 5, .long 0])), (h1, .inr (7, [.ref h2, .ref r13, .int 0, .int 0])), (h2, .inl (g0, 58, .inl (fun _ => 0)))] := hD
  obtain rfl : ra1 = (0 : Int32) := hw
  refine lv_if_eq (tgt := 26) hx hb dX11_ends_8 (by decide) (fun _ => ?_) (fun c => absurd (by decide) c)
  refine lv_iconst (v := (-1)) hx hb dX11_ends_26 (by decide) ?_
  have hP9 := hP.sub (ws' := [(h0, .inr (11, [.ref r0, .ref r1, .ref r2, .ref r3, .ref r4, .ref h1, .ref r5, .ref r6, .ref r7, .ref r8, .ref r9, .ref r10, .ref r11, .ref r12, .int 0, .int 5, .long 0])), (h1, .inr (7, [.ref h2, .ref r13, .int 0, .int 0])), (h2, .inl (g0, 58, .inl (fun _ => 0)))]) [0, 1, 2] rfl
  have hD9 := hD.sub (ws' := [(h0, .inr (11, [.ref r0, .ref r1, .ref r2, .ref r3, .ref r4, .ref h1, .ref r5, .ref r6, .ref r7, .ref r8, .ref r9, .ref r10, .ref r11, .ref r12, .int 0, .int 5, .long 0])), (h1, .inr (7, [.ref h2, .ref r13, .int 0, .int 0])), (h2, .inl (g0, 58, .inl (fun _ => 0)))]) [0, 1, 2] (by decide) rfl
  have hK9 := hK.sub (tys' := [(g0, .int)]) [0] rfl
  exact W.iret (v := (-1)) hx hb hr (fun t ht hW => ⟨⟨(-1), (), rfl, rfl, by rw [ht]; exact hP9, va_K.moved hW.alike hK9, hD9⟩, hS.F ht⟩) hS.2.2 dX11_ends_27
def q_X11_falls : List Cond := .code yX11_falls cX11_falls 2 (some .int) :: (([.fieldLink RX11 49 "LeftArguments" "room" "LLeftArguments$Room;", .code yX7_has cX7_has 2 (some .boolean), .fieldLink RX7 11 "LeftArguments$Room" "cells" "[I", .initialized RX7, .instanceMethod yX7_has, .selects RX7 yX7_has yX7_has, .methodLink RX11 169 yX7_has] : List Cond) ++ wsX110 ++ wsX70)
set_option maxRecDepth 20000 in
theorem g_X11_falls_0 : GoodIn q_X11_falls (wsV RX11 169 RX7 yX7_has q_X7_has) := goodIn_app (goodIn_r _ [7, 5, 6, 4] (by decide +kernel) (by decide +kernel)) (goodIn_ca (goodIn_r (.code yX7_has cX7_has 2 (some .boolean) :: [.fieldLink RX7 11 "LeftArguments$Room" "cells" "[I"]) [2, 3] (by decide +kernel) (by decide +kernel)) (goodIn_sub (fun _ h => List.mem_cons_of_mem _ (List.mem_append_right _ h)) gwX7))
set_option maxHeartbeats 4000000 in
set_option maxRecDepth 100000 in
theorem k_X11_falls (l : Launch) (dC : Nat → ClassId) (dI : Nat → Nat → Nat) (g0 : ClassId) (h0 h1 h2 : Nat) (r0 r1 r2 r3 r4 r5 r6 r7 r8 r9 r10 r11 r12 r13 : Nat) (v0 : Int32) (sz : Nat) : Met l yX11_falls q_X11_falls ({ frames := 1, cells := 0, slots := 0, locals := 21 }) (va_Pc [.ref h0, .int v0] (fun U => U.heap.size = sz ∧ va_P (dC, dI) vwCl [(h0, .inr (11, [.ref r0, .ref r1, .ref r2, .ref r3, .ref r4, .ref h1, .ref r5, .ref r6, .ref r7, .ref r8, .ref r9, .ref r10, .ref r11, .ref r12, .int 0, .int 5, .long 0])), (h1, .inr (7, [.ref h2, .ref r13, .int 0, .int 0])), (h2, .inl (g0, 58, .inl (fun _ => 0)))] U.heap ∧ va_K (dC, dI) vwCl [(g0, .int)] U ∧ va_D (fun _ => True) [(h0, .inr (11, [.ref r0, .ref r1, .ref r2, .ref r3, .ref r4, .ref h1, .ref r5, .ref r6, .ref r7, .ref r8, .ref r9, .ref r10, .ref r11, .ref r12, .int 0, .int 5, .long 0])), (h1, .inr (7, [.ref h2, .ref r13, .int 0, .int 0])), (h2, .inl (g0, 58, .inl (fun _ => 0)))])) (va_Qi (fun (r : Int32) (_ : Unit) => r = (-1)) (fun (_ : Unit) (t : State) => va_P (dC, dI) vwCl [(h0, .inr (11, [.ref r0, .ref r1, .ref r2, .ref r3, .ref r4, .ref h1, .ref r5, .ref r6, .ref r7, .ref r8, .ref r9, .ref r10, .ref r11, .ref r12, .int 0, .int 5, .long 0])), (h1, .inr (7, [.ref h2, .ref r13, .int 0, .int 0])), (h2, .inl (g0, 58, .inl (fun _ => 0)))] t.heap ∧ va_K (dC, dI) vwCl [(g0, .int)] t ∧ va_D (va_A [(h0, .inr (11, [.ref r0, .ref r1, .ref r2, .ref r3, .ref r4, .ref h1, .ref r5, .ref r6, .ref r7, .ref r8, .ref r9, .ref r10, .ref r11, .ref r12, .int 0, .int 5, .long 0])), (h1, .inr (7, [.ref h2, .ref r13, .int 0, .int 0])), (h2, .inl (g0, 58, .inl (fun _ => 0)))] sz) [(h0, .inr (11, [.ref r0, .ref r1, .ref r2, .ref r3, .ref r4, .ref h1, .ref r5, .ref r6, .ref r7, .ref r8, .ref r9, .ref r10, .ref r11, .ref r12, .int 0, .int 5, .long 0])), (h1, .inr (7, [.ref h2, .ref r13, .int 0, .int 0])), (h2, .inl (g0, 58, .inl (fun _ => 0)))]) (va_A [(h0, .inr (11, [.ref r0, .ref r1, .ref r2, .ref r3, .ref r4, .ref h1, .ref r5, .ref r6, .ref r7, .ref r8, .ref r9, .ref r10, .ref r11, .ref r12, .int 0, .int 5, .long 0])), (h1, .inr (7, [.ref h2, .ref r13, .int 0, .int 0])), (h2, .inl (g0, 58, .inl (fun _ => 0)))] sz)) 0 0 (va_A [(h0, .inr (11, [.ref r0, .ref r1, .ref r2, .ref r3, .ref r4, .ref h1, .ref r5, .ref r6, .ref r7, .ref r8, .ref r9, .ref r10, .ref r11, .ref r12, .int 0, .int 5, .long 0])), (h1, .inr (7, [.ref h2, .ref r13, .int 0, .int 0])), (h2, .inl (g0, 58, .inl (fun _ => 0)))] sz) := by
  refine Met.ofW (cc := cX11_falls) (maxL := 2) (ret := (some .int)) (by decide) rfl ?_
  intro p e s m args below meth c s₁ B hml hv
  obtain ⟨rfl, hsz, hP, hK, hD0⟩ := hv
  have hx := B.exec
  have hb := B.bytes
  have hr := B.returns
  have hts := atoms_spec (ws := q_X11_falls) B.pre
  have hown : s.vm.findClass RX11 = some m.cls := findClass_of_methodNamed B.named
  have hlocks := B.notSynchronized
  subst hsz
  have hD := hD0.self (sz := s.heap.size)
  generalize hAe : va_A [(h0, .inr (11, [.ref r0, .ref r1, .ref r2, .ref r3, .ref r4, .ref h1, .ref r5, .ref r6, .ref r7, .ref r8, .ref r9, .ref r10, .ref r11, .ref r12, .int 0, .int 5, .long 0])), (h1, .inr (7, [.ref h2, .ref r13, .int 0, .int 0])), (h2, .inl (g0, 58, .inl (fun _ => 0)))] s.heap.size = A at hD ⊢
  have hA : ∀ q : Nat, s.heap.size ≤ q → A q := fun q h => by rw [← hAe]; exact Or.inr h
  have hS : va_S A s.heap s.heap [] := va_S.rf
  have hl := lv_entry ([.ref h0, .int v0]) (n := 2) (Nat.le_of_ble_eq_true rfl)
  rw [lg_entry_eq]
  generalize (lg_sl ([.ref h0, .int v0]) ++ List.replicate (2 - (lg_sl ([.ref h0, .int v0])).length) Slot.unset).toArray = ls at hl ⊢
  have hl : lv_has ls 2 [(0, .ref h0), (1, .int v0)] := hl
  refine lv_aload_n hx hb dX11_falls_0 rfl (lv_at hl 0 rfl) ?_
  refine va_get (D := (dC, dI)) (ci := 11) (v := .ref h1) (C := RX11) (T := TX11) (N := 17) hx hb hts (fun _ h => List.mem_cons_of_mem _ (List.mem_append_left _ (List.mem_append_right _ h))) hown hK hP 0 rfl rfl 5 (by decide) (hts (.fieldLink RX11 49 "LeftArguments" "room" "LLeftArguments$Room;") (List.mem_cons_of_mem _ (List.mem_append_left _ (List.mem_append_left _ (List.mem_of_getElem? (i := 0) rfl))))) (fun _ h9 => h9) rfl dX11_falls_1 ?_
  refine lv_iload_n hx hb dX11_falls_4 rfl (lv_at hl 1 rfl) ?_
  have hPc := hP.sub (ws' := [(h1, .inr (7, [.ref h2, .ref r13, .int 0, .int 0])), (h2, .inl (g0, 58, .inl (fun _ => 0)))]) [1, 2] rfl
  have hDc := hD.sub (ws' := [(h1, .inr (7, [.ref h2, .ref r13, .int 0, .int 0])), (h2, .inl (g0, 58, .inl (fun _ => 0)))]) [1, 2] (by decide) rfl
  have hKc := hK.sub (tys' := [(g0, .int)]) [0] rfl
  have hFc := va_free (wc := [(h1, .inr (7, [.ref h2, .ref r13, .int 0, .int 0])), (h2, .inl (g0, 58, .inl (fun _ => 0)))]) hD hS hA [1, 2] rfl
  refine va_calli (va_runV (As := [.int v0]) (rest := []) ⟨hx, hb, hml, hown, hts⟩ (k_X7_has l dC dI g0 h1 h2 r13 v0  s.heap.size) (cwV 1 hts g_X11_falls_0 rfl rfl rfl (by decide +kernel) ⟨Nat.le_of_ble_eq_true rfl, Nat.le_of_ble_eq_true rfl⟩) ⟨fun a U g mk q => by obtain ⟨q0, q1, qP, qK, qD⟩ := q; exact ⟨q0, q1, qP, va_K.moved (u := U) (U := U.calling g mk a) (Vm.Alike.refl U.vm) qK, qD⟩, va_recv hKc hPc (ci := 7) (q0 := 0) rfl rfl, fun U hU hW => ⟨rfl, by rw [hU], by rw [hU]; exact hPc, va_K.moved hW.alike hKc, hDc.weaken (fun _ _ _ _ => trivial)⟩⟩ rfl rfl hl.1 rfl (lv_room (Nat.le_of_ble_eq_true rfl)) dX11_falls_5 ⟨Nat.le_of_ble_eq_true rfl, Nat.le_of_ble_eq_true rfl⟩) hS (fun q _ h => hFc q h) hFc (fun ra1 u t H1 locs ht hvm hw hB hz1 hk1 hS => ?_)
  obtain ⟨hP1, hK1, hD1⟩ := hB
  rw [ht] at hP1
  obtain ⟨hP, hD⟩ := va_join (wr := [(h0, .inr (11, [.ref r0, .ref r1, .ref r2, .ref r3, .ref r4, .ref h1, .ref r5, .ref r6, .ref r7, .ref r8, .ref r9, .ref r10, .ref r11, .ref r12, .int 0, .int 5, .long 0]))]) (w1 := [(h1, .inr (7, [.ref h2, .ref r13, .int 0, .int 0])), (h2, .inl (g0, 58, .inl (fun _ => 0)))]) hP hD [1, 2] [0] rfl rfl (by decide) (by decide) hk1 hFc hP1 hD1
  generalize H1 = H at hP hS ⊢
  have hP : va_P (dC, dI) vwCl [(h0, .inr (11, [.ref r0, .ref r1, .ref r2, .ref r3, .ref r4, .ref h1, .ref r5, .ref r6, .ref r7, .ref r8, .ref r9, .ref r10, .ref r11, .ref r12, .int 0, .int 5, .long 0])), (h1, .inr (7, [.ref h2, .ref r13, .int 0, .int 0])), (h2, .inl (g0, 58, .inl (fun _ => 0)))] H := hP
  have hD : va_D A [(h0, .inr (11, [.ref r0, .ref r1, .ref r2, .ref r3, .ref r4, .ref h1, .ref r5, .ref r6, .ref r7, .ref r8, .ref r9, .ref r10, .ref r11, .ref r12, .int 0, .int 5, .long 0])), (h1, .inr (7, [.ref h2, .ref r13, .int 0, .int 0])), (h2, .inl (g0, 58, .inl (fun _ => 0)))] := hD
  obtain rfl : ra1 = (0 : Int32) := hw
  refine lv_if_eq (tgt := 25) hx hb dX11_falls_8 (by decide) (fun _ => ?_) (fun c => absurd (by decide) c)
  refine lv_iconst (v := (-1)) hx hb dX11_falls_25 (by decide) ?_
  refine lv_goto (tgt := 41) hx hb dX11_falls_26 (by decide) ?_
  have hP9 := hP.sub (ws' := [(h0, .inr (11, [.ref r0, .ref r1, .ref r2, .ref r3, .ref r4, .ref h1, .ref r5, .ref r6, .ref r7, .ref r8, .ref r9, .ref r10, .ref r11, .ref r12, .int 0, .int 5, .long 0])), (h1, .inr (7, [.ref h2, .ref r13, .int 0, .int 0])), (h2, .inl (g0, 58, .inl (fun _ => 0)))]) [0, 1, 2] rfl
  have hD9 := hD.sub (ws' := [(h0, .inr (11, [.ref r0, .ref r1, .ref r2, .ref r3, .ref r4, .ref h1, .ref r5, .ref r6, .ref r7, .ref r8, .ref r9, .ref r10, .ref r11, .ref r12, .int 0, .int 5, .long 0])), (h1, .inr (7, [.ref h2, .ref r13, .int 0, .int 0])), (h2, .inl (g0, 58, .inl (fun _ => 0)))]) [0, 1, 2] (by decide) rfl
  have hK9 := hK.sub (tys' := [(g0, .int)]) [0] rfl
  exact W.iret (v := (-1)) hx hb hr (fun t ht hW => ⟨⟨(-1), (), rfl, rfl, by rw [ht]; exact hP9, va_K.moved hW.alike hK9, hD9⟩, hS.F ht⟩) hS.2.2 dX11_falls_41
def q_X11_shelved : List Cond := .code yX11_shelved cX11_shelved 3 (some .int) :: (([.fieldLink RX11 42 "LeftArguments" "office" "LLeftArguments$Office;", .code yX5_stands cX5_stands 1 (some .boolean), .fieldLink RX5 24 "LeftArguments$Office" "stands" "Z", .initialized RX5, .instanceMethod yX5_stands, .selects RX5 yX5_stands yX5_stands, .methodLink RX11 159 yX5_stands] : List Cond) ++ wsX110 ++ wsX50)
set_option maxRecDepth 20000 in
theorem g_X11_shelved_0 : GoodIn q_X11_shelved (wsV RX11 159 RX5 yX5_stands q_X5_stands) := goodIn_app (goodIn_r _ [7, 5, 6, 4] (by decide +kernel) (by decide +kernel)) (goodIn_ca (goodIn_r (.code yX5_stands cX5_stands 1 (some .boolean) :: [.fieldLink RX5 24 "LeftArguments$Office" "stands" "Z"]) [2, 3] (by decide +kernel) (by decide +kernel)) (goodIn_sub (fun _ h => List.mem_cons_of_mem _ (List.mem_append_right _ h)) gwX5))
set_option maxHeartbeats 4000000 in
set_option maxRecDepth 100000 in
theorem k_X11_shelved (l : Launch) (dC : Nat → ClassId) (dI : Nat → Nat → Nat) (h0 h1 : Nat) (r0 r1 r2 r3 r4 r5 r6 r7 r8 r9 r10 r11 r12 r13 r14 : Nat) (v0 : Int32) (sz : Nat) : Met l yX11_shelved q_X11_shelved ({ frames := 1, cells := 0, slots := 0, locals := 20 }) (va_Pc [.ref h0, .int v0] (fun U => U.heap.size = sz ∧ va_P (dC, dI) vwCl [(h0, .inr (11, [.ref r0, .ref r1, .ref r2, .ref r3, .ref h1, .ref r4, .ref r5, .ref r6, .ref r7, .ref r8, .ref r9, .ref r10, .ref r11, .ref r12, .int 0, .int 5, .long 0])), (h1, .inr (5, [.ref r13, .ref r14, .int 0, .int 0]))] U.heap ∧ va_K (dC, dI) vwCl [] U ∧ va_D (fun _ => True) [(h0, .inr (11, [.ref r0, .ref r1, .ref r2, .ref r3, .ref h1, .ref r4, .ref r5, .ref r6, .ref r7, .ref r8, .ref r9, .ref r10, .ref r11, .ref r12, .int 0, .int 5, .long 0])), (h1, .inr (5, [.ref r13, .ref r14, .int 0, .int 0]))])) (va_Qi (fun (r : Int32) (_ : Unit) => r = (-1)) (fun (_ : Unit) (t : State) => va_P (dC, dI) vwCl [(h0, .inr (11, [.ref r0, .ref r1, .ref r2, .ref r3, .ref h1, .ref r4, .ref r5, .ref r6, .ref r7, .ref r8, .ref r9, .ref r10, .ref r11, .ref r12, .int 0, .int 5, .long 0])), (h1, .inr (5, [.ref r13, .ref r14, .int 0, .int 0]))] t.heap ∧ va_K (dC, dI) vwCl [] t ∧ va_D (va_A [(h0, .inr (11, [.ref r0, .ref r1, .ref r2, .ref r3, .ref h1, .ref r4, .ref r5, .ref r6, .ref r7, .ref r8, .ref r9, .ref r10, .ref r11, .ref r12, .int 0, .int 5, .long 0])), (h1, .inr (5, [.ref r13, .ref r14, .int 0, .int 0]))] sz) [(h0, .inr (11, [.ref r0, .ref r1, .ref r2, .ref r3, .ref h1, .ref r4, .ref r5, .ref r6, .ref r7, .ref r8, .ref r9, .ref r10, .ref r11, .ref r12, .int 0, .int 5, .long 0])), (h1, .inr (5, [.ref r13, .ref r14, .int 0, .int 0]))]) (va_A [(h0, .inr (11, [.ref r0, .ref r1, .ref r2, .ref r3, .ref h1, .ref r4, .ref r5, .ref r6, .ref r7, .ref r8, .ref r9, .ref r10, .ref r11, .ref r12, .int 0, .int 5, .long 0])), (h1, .inr (5, [.ref r13, .ref r14, .int 0, .int 0]))] sz)) 0 0 (va_A [(h0, .inr (11, [.ref r0, .ref r1, .ref r2, .ref r3, .ref h1, .ref r4, .ref r5, .ref r6, .ref r7, .ref r8, .ref r9, .ref r10, .ref r11, .ref r12, .int 0, .int 5, .long 0])), (h1, .inr (5, [.ref r13, .ref r14, .int 0, .int 0]))] sz) := by
  refine Met.ofW (cc := cX11_shelved) (maxL := 3) (ret := (some .int)) (by decide) rfl ?_
  intro p e s m args below meth c s₁ B hml hv
  obtain ⟨rfl, hsz, hP, hK, hD0⟩ := hv
  have hx := B.exec
  have hb := B.bytes
  have hr := B.returns
  have hts := atoms_spec (ws := q_X11_shelved) B.pre
  have hown : s.vm.findClass RX11 = some m.cls := findClass_of_methodNamed B.named
  have hlocks := B.notSynchronized
  subst hsz
  have hD := hD0.self (sz := s.heap.size)
  generalize hAe : va_A [(h0, .inr (11, [.ref r0, .ref r1, .ref r2, .ref r3, .ref h1, .ref r4, .ref r5, .ref r6, .ref r7, .ref r8, .ref r9, .ref r10, .ref r11, .ref r12, .int 0, .int 5, .long 0])), (h1, .inr (5, [.ref r13, .ref r14, .int 0, .int 0]))] s.heap.size = A at hD ⊢
  have hA : ∀ q : Nat, s.heap.size ≤ q → A q := fun q h => by rw [← hAe]; exact Or.inr h
  have hS : va_S A s.heap s.heap [] := va_S.rf
  have hl := lv_entry ([.ref h0, .int v0]) (n := 3) (Nat.le_of_ble_eq_true rfl)
  rw [lg_entry_eq]
  generalize (lg_sl ([.ref h0, .int v0]) ++ List.replicate (3 - (lg_sl ([.ref h0, .int v0])).length) Slot.unset).toArray = ls at hl ⊢
  have hl : lv_has ls 3 [(0, .ref h0), (1, .int v0)] := hl
  refine lv_aload_n hx hb dX11_shelved_0 rfl (lv_at hl 0 rfl) ?_
  refine va_get (D := (dC, dI)) (ci := 11) (v := .ref h1) (C := RX11) (T := TX11) (N := 17) hx hb hts (fun _ h => List.mem_cons_of_mem _ (List.mem_append_left _ (List.mem_append_right _ h))) hown hK hP 0 rfl rfl 4 (by decide) (hts (.fieldLink RX11 42 "LeftArguments" "office" "LLeftArguments$Office;") (List.mem_cons_of_mem _ (List.mem_append_left _ (List.mem_append_left _ (List.mem_of_getElem? (i := 0) rfl))))) (fun _ h9 => h9) rfl dX11_shelved_1 ?_
  have hPc := hP.sub (ws' := [(h1, .inr (5, [.ref r13, .ref r14, .int 0, .int 0]))]) [1] rfl
  have hDc := hD.sub (ws' := [(h1, .inr (5, [.ref r13, .ref r14, .int 0, .int 0]))]) [1] (by decide) rfl
  have hKc := hK.sub (tys' := []) [] rfl
  have hFc := va_free (wc := [(h1, .inr (5, [.ref r13, .ref r14, .int 0, .int 0]))]) hD hS hA [1] rfl
  refine va_calli (va_runV (As := []) (rest := []) ⟨hx, hb, hml, hown, hts⟩ (k_X5_stands l dC dI h1 r13 r14  s.heap.size) (cwV 0 hts g_X11_shelved_0 rfl rfl rfl (by decide +kernel) ⟨Nat.le_of_ble_eq_true rfl, Nat.le_of_ble_eq_true rfl⟩) ⟨fun a U g mk q => by obtain ⟨q0, q1, qP, qK, qD⟩ := q; exact ⟨q0, q1, qP, va_K.moved (u := U) (U := U.calling g mk a) (Vm.Alike.refl U.vm) qK, qD⟩, va_recv hKc hPc (ci := 5) (q0 := 0) rfl rfl, fun U hU hW => ⟨rfl, by rw [hU], by rw [hU]; exact hPc, va_K.moved hW.alike hKc, hDc.weaken (fun _ _ _ _ => trivial)⟩⟩ rfl rfl hl.1 rfl (lv_room (Nat.le_of_ble_eq_true rfl)) dX11_shelved_4 ⟨Nat.le_of_ble_eq_true rfl, Nat.le_of_ble_eq_true rfl⟩) hS (fun q _ h => hFc q h) hFc (fun ra1 u t H1 locs ht hvm hw hB hz1 hk1 hS => ?_)
  obtain ⟨hP1, hK1, hD1⟩ := hB
  rw [ht] at hP1
  obtain ⟨hP, hD⟩ := va_join (wr := [(h0, .inr (11, [.ref r0, .ref r1, .ref r2, .ref r3, .ref h1, .ref r4, .ref r5, .ref r6, .ref r7, .ref r8, .ref r9, .ref r10, .ref r11, .ref r12, .int 0, .int 5, .long 0]))]) (w1 := [(h1, .inr (5, [.ref r13, .ref r14, .int 0, .int 0]))]) hP hD [1] [0] rfl rfl (by decide) (by decide) hk1 hFc hP1 hD1
  generalize H1 = H at hP hS ⊢
  have hP : va_P (dC, dI) vwCl [(h0, .inr (11, [.ref r0, .ref r1, .ref r2, .ref r3, .ref h1, .ref r4, .ref r5, .ref r6, .ref r7, .ref r8, .ref r9, .ref r10, .ref r11, .ref r12, .int 0, .int 5, .long 0])), (h1, .inr (5, [.ref r13, .ref r14, .int 0, .int 0]))] H := hP
  have hD : va_D A [(h0, .inr (11, [.ref r0, .ref r1, .ref r2, .ref r3, .ref h1, .ref r4, .ref r5, .ref r6, .ref r7, .ref r8, .ref r9, .ref r10, .ref r11, .ref r12, .int 0, .int 5, .long 0])), (h1, .inr (5, [.ref r13, .ref r14, .int 0, .int 0]))] := hD
  obtain rfl : ra1 = (0 : Int32) := hw
  refine lv_if_eq (tgt := 19) hx hb dX11_shelved_7 (by decide) (fun _ => ?_) (fun c => absurd (by decide) c)
  refine lv_iconst (v := (-1)) hx hb dX11_shelved_19 (by decide) ?_
  have hP9 := hP.sub (ws' := [(h0, .inr (11, [.ref r0, .ref r1, .ref r2, .ref r3, .ref h1, .ref r4, .ref r5, .ref r6, .ref r7, .ref r8, .ref r9, .ref r10, .ref r11, .ref r12, .int 0, .int 5, .long 0])), (h1, .inr (5, [.ref r13, .ref r14, .int 0, .int 0]))]) [0, 1] rfl
  have hD9 := hD.sub (ws' := [(h0, .inr (11, [.ref r0, .ref r1, .ref r2, .ref r3, .ref h1, .ref r4, .ref r5, .ref r6, .ref r7, .ref r8, .ref r9, .ref r10, .ref r11, .ref r12, .int 0, .int 5, .long 0])), (h1, .inr (5, [.ref r13, .ref r14, .int 0, .int 0]))]) [0, 1] (by decide) rfl
  have hK9 := hK.sub (tys' := []) [] rfl
  exact W.iret (v := (-1)) hx hb hr (fun t ht hW => ⟨⟨(-1), (), rfl, rfl, by rw [ht]; exact hP9, va_K.moved hW.alike hK9, hD9⟩, hS.F ht⟩) hS.2.2 dX11_shelved_20
def q_X11_sets : List Cond := .code yX11_sets cX11_sets 3 (some .int) :: (([.fieldLink RX11 49 "LeftArguments" "room" "LLeftArguments$Room;", .code yX7_has cX7_has 2 (some .boolean), .fieldLink RX7 11 "LeftArguments$Room" "cells" "[I", .initialized RX7, .instanceMethod yX7_has, .selects RX7 yX7_has yX7_has, .methodLink RX11 169 yX7_has] : List Cond) ++ wsX110 ++ wsX70)
set_option maxRecDepth 20000 in
theorem g_X11_sets_0 : GoodIn q_X11_sets (wsV RX11 169 RX7 yX7_has q_X7_has) := goodIn_app (goodIn_r _ [7, 5, 6, 4] (by decide +kernel) (by decide +kernel)) (goodIn_ca (goodIn_r (.code yX7_has cX7_has 2 (some .boolean) :: [.fieldLink RX7 11 "LeftArguments$Room" "cells" "[I"]) [2, 3] (by decide +kernel) (by decide +kernel)) (goodIn_sub (fun _ h => List.mem_cons_of_mem _ (List.mem_append_right _ h)) gwX7))
set_option maxHeartbeats 4000000 in
set_option maxRecDepth 100000 in
theorem k_X11_sets (l : Launch) (dC : Nat → ClassId) (dI : Nat → Nat → Nat) (g0 : ClassId) (h0 h1 h2 : Nat) (r0 r1 r2 r3 r4 r5 r6 r7 r8 r9 r10 r11 r12 r13 : Nat) (v0 v1 : Int32) (sz : Nat) : Met l yX11_sets q_X11_sets ({ frames := 1, cells := 0, slots := 0, locals := 21 }) (va_Pc [.ref h0, .int v0, .int v1] (fun U => U.heap.size = sz ∧ va_P (dC, dI) vwCl [(h0, .inr (11, [.ref r0, .ref r1, .ref r2, .ref r3, .ref r4, .ref h1, .ref r5, .ref r6, .ref r7, .ref r8, .ref r9, .ref r10, .ref r11, .ref r12, .int 0, .int 5, .long 0])), (h1, .inr (7, [.ref h2, .ref r13, .int 0, .int 0])), (h2, .inl (g0, 58, .inl (fun _ => 0)))] U.heap ∧ va_K (dC, dI) vwCl [(g0, .int)] U ∧ va_D (fun _ => True) [(h0, .inr (11, [.ref r0, .ref r1, .ref r2, .ref r3, .ref r4, .ref h1, .ref r5, .ref r6, .ref r7, .ref r8, .ref r9, .ref r10, .ref r11, .ref r12, .int 0, .int 5, .long 0])), (h1, .inr (7, [.ref h2, .ref r13, .int 0, .int 0])), (h2, .inl (g0, 58, .inl (fun _ => 0)))])) (va_Qi (fun (r : Int32) (_ : Unit) => r = (-1)) (fun (_ : Unit) (t : State) => va_P (dC, dI) vwCl [(h0, .inr (11, [.ref r0, .ref r1, .ref r2, .ref r3, .ref r4, .ref h1, .ref r5, .ref r6, .ref r7, .ref r8, .ref r9, .ref r10, .ref r11, .ref r12, .int 0, .int 5, .long 0])), (h1, .inr (7, [.ref h2, .ref r13, .int 0, .int 0])), (h2, .inl (g0, 58, .inl (fun _ => 0)))] t.heap ∧ va_K (dC, dI) vwCl [(g0, .int)] t ∧ va_D (va_A [(h0, .inr (11, [.ref r0, .ref r1, .ref r2, .ref r3, .ref r4, .ref h1, .ref r5, .ref r6, .ref r7, .ref r8, .ref r9, .ref r10, .ref r11, .ref r12, .int 0, .int 5, .long 0])), (h1, .inr (7, [.ref h2, .ref r13, .int 0, .int 0])), (h2, .inl (g0, 58, .inl (fun _ => 0)))] sz) [(h0, .inr (11, [.ref r0, .ref r1, .ref r2, .ref r3, .ref r4, .ref h1, .ref r5, .ref r6, .ref r7, .ref r8, .ref r9, .ref r10, .ref r11, .ref r12, .int 0, .int 5, .long 0])), (h1, .inr (7, [.ref h2, .ref r13, .int 0, .int 0])), (h2, .inl (g0, 58, .inl (fun _ => 0)))]) (va_A [(h0, .inr (11, [.ref r0, .ref r1, .ref r2, .ref r3, .ref r4, .ref h1, .ref r5, .ref r6, .ref r7, .ref r8, .ref r9, .ref r10, .ref r11, .ref r12, .int 0, .int 5, .long 0])), (h1, .inr (7, [.ref h2, .ref r13, .int 0, .int 0])), (h2, .inl (g0, 58, .inl (fun _ => 0)))] sz)) 0 0 (va_A [(h0, .inr (11, [.ref r0, .ref r1, .ref r2, .ref r3, .ref r4, .ref h1, .ref r5, .ref r6, .ref r7, .ref r8, .ref r9, .ref r10, .ref r11, .ref r12, .int 0, .int 5, .long 0])), (h1, .inr (7, [.ref h2, .ref r13, .int 0, .int 0])), (h2, .inl (g0, 58, .inl (fun _ => 0)))] sz) := by
  refine Met.ofW (cc := cX11_sets) (maxL := 3) (ret := (some .int)) (by decide) rfl ?_
  intro p e s m args below meth c s₁ B hml hv
  obtain ⟨rfl, hsz, hP, hK, hD0⟩ := hv
  have hx := B.exec
  have hb := B.bytes
  have hr := B.returns
  have hts := atoms_spec (ws := q_X11_sets) B.pre
  have hown : s.vm.findClass RX11 = some m.cls := findClass_of_methodNamed B.named
  have hlocks := B.notSynchronized
  subst hsz
  have hD := hD0.self (sz := s.heap.size)
  generalize hAe : va_A [(h0, .inr (11, [.ref r0, .ref r1, .ref r2, .ref r3, .ref r4, .ref h1, .ref r5, .ref r6, .ref r7, .ref r8, .ref r9, .ref r10, .ref r11, .ref r12, .int 0, .int 5, .long 0])), (h1, .inr (7, [.ref h2, .ref r13, .int 0, .int 0])), (h2, .inl (g0, 58, .inl (fun _ => 0)))] s.heap.size = A at hD ⊢
  have hA : ∀ q : Nat, s.heap.size ≤ q → A q := fun q h => by rw [← hAe]; exact Or.inr h
  have hS : va_S A s.heap s.heap [] := va_S.rf
  have hl := lv_entry ([.ref h0, .int v0, .int v1]) (n := 3) (Nat.le_of_ble_eq_true rfl)
  rw [lg_entry_eq]
  generalize (lg_sl ([.ref h0, .int v0, .int v1]) ++ List.replicate (3 - (lg_sl ([.ref h0, .int v0, .int v1])).length) Slot.unset).toArray = ls at hl ⊢
  have hl : lv_has ls 3 [(0, .ref h0), (1, .int v0), (2, .int v1)] := hl
  refine lv_aload_n hx hb dX11_sets_0 rfl (lv_at hl 0 rfl) ?_
  refine va_get (D := (dC, dI)) (ci := 11) (v := .ref h1) (C := RX11) (T := TX11) (N := 17) hx hb hts (fun _ h => List.mem_cons_of_mem _ (List.mem_append_left _ (List.mem_append_right _ h))) hown hK hP 0 rfl rfl 5 (by decide) (hts (.fieldLink RX11 49 "LeftArguments" "room" "LLeftArguments$Room;") (List.mem_cons_of_mem _ (List.mem_append_left _ (List.mem_append_left _ (List.mem_of_getElem? (i := 0) rfl))))) (fun _ h9 => h9) rfl dX11_sets_1 ?_
  refine lv_iload_n hx hb dX11_sets_4 rfl (lv_at hl 1 rfl) ?_
  have hPc := hP.sub (ws' := [(h1, .inr (7, [.ref h2, .ref r13, .int 0, .int 0])), (h2, .inl (g0, 58, .inl (fun _ => 0)))]) [1, 2] rfl
  have hDc := hD.sub (ws' := [(h1, .inr (7, [.ref h2, .ref r13, .int 0, .int 0])), (h2, .inl (g0, 58, .inl (fun _ => 0)))]) [1, 2] (by decide) rfl
  have hKc := hK.sub (tys' := [(g0, .int)]) [0] rfl
  have hFc := va_free (wc := [(h1, .inr (7, [.ref h2, .ref r13, .int 0, .int 0])), (h2, .inl (g0, 58, .inl (fun _ => 0)))]) hD hS hA [1, 2] rfl
  refine va_calli (va_runV (As := [.int v0]) (rest := []) ⟨hx, hb, hml, hown, hts⟩ (k_X7_has l dC dI g0 h1 h2 r13 v0  s.heap.size) (cwV 1 hts g_X11_sets_0 rfl rfl rfl (by decide +kernel) ⟨Nat.le_of_ble_eq_true rfl, Nat.le_of_ble_eq_true rfl⟩) ⟨fun a U g mk q => by obtain ⟨q0, q1, qP, qK, qD⟩ := q; exact ⟨q0, q1, qP, va_K.moved (u := U) (U := U.calling g mk a) (Vm.Alike.refl U.vm) qK, qD⟩, va_recv hKc hPc (ci := 7) (q0 := 0) rfl rfl, fun U hU hW => ⟨rfl, by rw [hU], by rw [hU]; exact hPc, va_K.moved hW.alike hKc, hDc.weaken (fun _ _ _ _ => trivial)⟩⟩ rfl rfl hl.1 rfl (lv_room (Nat.le_of_ble_eq_true rfl)) dX11_sets_5 ⟨Nat.le_of_ble_eq_true rfl, Nat.le_of_ble_eq_true rfl⟩) hS (fun q _ h => hFc q h) hFc (fun ra1 u t H1 locs ht hvm hw hB hz1 hk1 hS => ?_)
  obtain ⟨hP1, hK1, hD1⟩ := hB
  rw [ht] at hP1
  obtain ⟨hP, hD⟩ := va_join (wr := [(h0, .inr (11, [.ref r0, .ref r1, .ref r2, .ref r3, .ref r4, .ref h1, .ref r5, .ref r6, .ref r7, .ref r8, .ref r9, .ref r10, .ref r11, .ref r12, .int 0, .int 5, .long 0]))]) (w1 := [(h1, .inr (7, [.ref h2, .ref r13, .int 0, .int 0])), (h2, .inl (g0, 58, .inl (fun _ => 0)))]) hP hD [1, 2] [0] rfl rfl (by decide) (by decide) hk1 hFc hP1 hD1
  generalize H1 = H at hP hS ⊢
  have hP : va_P (dC, dI) vwCl [(h0, .inr (11, [.ref r0, .ref r1, .ref r2, .ref r3, .ref r4, .ref h1, .ref r5, .ref r6, .ref r7, .ref r8, .ref r9, .ref r10, .ref r11, .ref r12, .int 0, .int 5, .long 0])), (h1, .inr (7, [.ref h2, .ref r13, .int 0, .int 0])), (h2, .inl (g0, 58, .inl (fun _ => 0)))] H := hP
  have hD : va_D A [(h0, .inr (11, [.ref r0, .ref r1, .ref r2, .ref r3, .ref r4, .ref h1, .ref r5, .ref r6, .ref r7, .ref r8, .ref r9, .ref r10, .ref r11, .ref r12, .int 0, .int 5, .long 0])), (h1, .inr (7, [.ref h2, .ref r13, .int 0, .int 0])), (h2, .inl (g0, 58, .inl (fun _ => 0)))] := hD
  obtain rfl : ra1 = (0 : Int32) := hw
  refine lv_if_eq (tgt := 27) hx hb dX11_sets_8 (by decide) (fun _ => ?_) (fun c => absurd (by decide) c)
  refine lv_iconst (v := (-1)) hx hb dX11_sets_27 (by decide) ?_
  have hP9 := hP.sub (ws' := [(h0, .inr (11, [.ref r0, .ref r1, .ref r2, .ref r3, .ref r4, .ref h1, .ref r5, .ref r6, .ref r7, .ref r8, .ref r9, .ref r10, .ref r11, .ref r12, .int 0, .int 5, .long 0])), (h1, .inr (7, [.ref h2, .ref r13, .int 0, .int 0])), (h2, .inl (g0, 58, .inl (fun _ => 0)))]) [0, 1, 2] rfl
  have hD9 := hD.sub (ws' := [(h0, .inr (11, [.ref r0, .ref r1, .ref r2, .ref r3, .ref r4, .ref h1, .ref r5, .ref r6, .ref r7, .ref r8, .ref r9, .ref r10, .ref r11, .ref r12, .int 0, .int 5, .long 0])), (h1, .inr (7, [.ref h2, .ref r13, .int 0, .int 0])), (h2, .inl (g0, 58, .inl (fun _ => 0)))]) [0, 1, 2] (by decide) rfl
  have hK9 := hK.sub (tys' := [(g0, .int)]) [0] rfl
  exact W.iret (v := (-1)) hx hb hr (fun t ht hW => ⟨⟨(-1), (), rfl, rfl, by rw [ht]; exact hP9, va_K.moved hW.alike hK9, hD9⟩, hS.F ht⟩) hS.2.2 dX11_sets_28
def q_X11_apart : List Cond := .code yX11_apart cX11_apart 3 (some .int) :: (([.fieldLink RX11 42 "LeftArguments" "office" "LLeftArguments$Office;", .code yX5_stands cX5_stands 1 (some .boolean), .fieldLink RX5 24 "LeftArguments$Office" "stands" "Z", .initialized RX5, .instanceMethod yX5_stands, .selects RX5 yX5_stands yX5_stands, .methodLink RX11 159 yX5_stands] : List Cond) ++ wsX110 ++ wsX50)
set_option maxRecDepth 20000 in
theorem g_X11_apart_0 : GoodIn q_X11_apart (wsV RX11 159 RX5 yX5_stands q_X5_stands) := goodIn_app (goodIn_r _ [7, 5, 6, 4] (by decide +kernel) (by decide +kernel)) (goodIn_ca (goodIn_r (.code yX5_stands cX5_stands 1 (some .boolean) :: [.fieldLink RX5 24 "LeftArguments$Office" "stands" "Z"]) [2, 3] (by decide +kernel) (by decide +kernel)) (goodIn_sub (fun _ h => List.mem_cons_of_mem _ (List.mem_append_right _ h)) gwX5))
set_option maxHeartbeats 4000000 in
set_option maxRecDepth 100000 in
theorem k_X11_apart (l : Launch) (dC : Nat → ClassId) (dI : Nat → Nat → Nat) (h0 h1 : Nat) (r0 r1 r2 r3 r4 r5 r6 r7 r8 r9 r10 r11 r12 r13 r14 : Nat) (v0 : Int32) (sz : Nat) : Met l yX11_apart q_X11_apart ({ frames := 1, cells := 0, slots := 0, locals := 20 }) (va_Pc [.ref h0, .int v0] (fun U => U.heap.size = sz ∧ va_P (dC, dI) vwCl [(h0, .inr (11, [.ref r0, .ref r1, .ref r2, .ref r3, .ref h1, .ref r4, .ref r5, .ref r6, .ref r7, .ref r8, .ref r9, .ref r10, .ref r11, .ref r12, .int 0, .int 5, .long 0])), (h1, .inr (5, [.ref r13, .ref r14, .int 0, .int 0]))] U.heap ∧ va_K (dC, dI) vwCl [] U ∧ va_D (fun _ => True) [(h0, .inr (11, [.ref r0, .ref r1, .ref r2, .ref r3, .ref h1, .ref r4, .ref r5, .ref r6, .ref r7, .ref r8, .ref r9, .ref r10, .ref r11, .ref r12, .int 0, .int 5, .long 0])), (h1, .inr (5, [.ref r13, .ref r14, .int 0, .int 0]))])) (va_Qi (fun (r : Int32) (_ : Unit) => r = (-1)) (fun (_ : Unit) (t : State) => va_P (dC, dI) vwCl [(h0, .inr (11, [.ref r0, .ref r1, .ref r2, .ref r3, .ref h1, .ref r4, .ref r5, .ref r6, .ref r7, .ref r8, .ref r9, .ref r10, .ref r11, .ref r12, .int 0, .int 5, .long 0])), (h1, .inr (5, [.ref r13, .ref r14, .int 0, .int 0]))] t.heap ∧ va_K (dC, dI) vwCl [] t ∧ va_D (va_A [(h0, .inr (11, [.ref r0, .ref r1, .ref r2, .ref r3, .ref h1, .ref r4, .ref r5, .ref r6, .ref r7, .ref r8, .ref r9, .ref r10, .ref r11, .ref r12, .int 0, .int 5, .long 0])), (h1, .inr (5, [.ref r13, .ref r14, .int 0, .int 0]))] sz) [(h0, .inr (11, [.ref r0, .ref r1, .ref r2, .ref r3, .ref h1, .ref r4, .ref r5, .ref r6, .ref r7, .ref r8, .ref r9, .ref r10, .ref r11, .ref r12, .int 0, .int 5, .long 0])), (h1, .inr (5, [.ref r13, .ref r14, .int 0, .int 0]))]) (va_A [(h0, .inr (11, [.ref r0, .ref r1, .ref r2, .ref r3, .ref h1, .ref r4, .ref r5, .ref r6, .ref r7, .ref r8, .ref r9, .ref r10, .ref r11, .ref r12, .int 0, .int 5, .long 0])), (h1, .inr (5, [.ref r13, .ref r14, .int 0, .int 0]))] sz)) 0 0 (va_A [(h0, .inr (11, [.ref r0, .ref r1, .ref r2, .ref r3, .ref h1, .ref r4, .ref r5, .ref r6, .ref r7, .ref r8, .ref r9, .ref r10, .ref r11, .ref r12, .int 0, .int 5, .long 0])), (h1, .inr (5, [.ref r13, .ref r14, .int 0, .int 0]))] sz) := by
  refine Met.ofW (cc := cX11_apart) (maxL := 3) (ret := (some .int)) (by decide) rfl ?_
  intro p e s m args below meth c s₁ B hml hv
  obtain ⟨rfl, hsz, hP, hK, hD0⟩ := hv
  have hx := B.exec
  have hb := B.bytes
  have hr := B.returns
  have hts := atoms_spec (ws := q_X11_apart) B.pre
  have hown : s.vm.findClass RX11 = some m.cls := findClass_of_methodNamed B.named
  have hlocks := B.notSynchronized
  subst hsz
  have hD := hD0.self (sz := s.heap.size)
  generalize hAe : va_A [(h0, .inr (11, [.ref r0, .ref r1, .ref r2, .ref r3, .ref h1, .ref r4, .ref r5, .ref r6, .ref r7, .ref r8, .ref r9, .ref r10, .ref r11, .ref r12, .int 0, .int 5, .long 0])), (h1, .inr (5, [.ref r13, .ref r14, .int 0, .int 0]))] s.heap.size = A at hD ⊢
  have hA : ∀ q : Nat, s.heap.size ≤ q → A q := fun q h => by rw [← hAe]; exact Or.inr h
  have hS : va_S A s.heap s.heap [] := va_S.rf
  have hl := lv_entry ([.ref h0, .int v0]) (n := 3) (Nat.le_of_ble_eq_true rfl)
  rw [lg_entry_eq]
  generalize (lg_sl ([.ref h0, .int v0]) ++ List.replicate (3 - (lg_sl ([.ref h0, .int v0])).length) Slot.unset).toArray = ls at hl ⊢
  have hl : lv_has ls 3 [(0, .ref h0), (1, .int v0)] := hl
  refine lv_aload_n hx hb dX11_apart_0 rfl (lv_at hl 0 rfl) ?_
  refine va_get (D := (dC, dI)) (ci := 11) (v := .ref h1) (C := RX11) (T := TX11) (N := 17) hx hb hts (fun _ h => List.mem_cons_of_mem _ (List.mem_append_left _ (List.mem_append_right _ h))) hown hK hP 0 rfl rfl 4 (by decide) (hts (.fieldLink RX11 42 "LeftArguments" "office" "LLeftArguments$Office;") (List.mem_cons_of_mem _ (List.mem_append_left _ (List.mem_append_left _ (List.mem_of_getElem? (i := 0) rfl))))) (fun _ h9 => h9) rfl dX11_apart_1 ?_
  have hPc := hP.sub (ws' := [(h1, .inr (5, [.ref r13, .ref r14, .int 0, .int 0]))]) [1] rfl
  have hDc := hD.sub (ws' := [(h1, .inr (5, [.ref r13, .ref r14, .int 0, .int 0]))]) [1] (by decide) rfl
  have hKc := hK.sub (tys' := []) [] rfl
  have hFc := va_free (wc := [(h1, .inr (5, [.ref r13, .ref r14, .int 0, .int 0]))]) hD hS hA [1] rfl
  refine va_calli (va_runV (As := []) (rest := []) ⟨hx, hb, hml, hown, hts⟩ (k_X5_stands l dC dI h1 r13 r14  s.heap.size) (cwV 0 hts g_X11_apart_0 rfl rfl rfl (by decide +kernel) ⟨Nat.le_of_ble_eq_true rfl, Nat.le_of_ble_eq_true rfl⟩) ⟨fun a U g mk q => by obtain ⟨q0, q1, qP, qK, qD⟩ := q; exact ⟨q0, q1, qP, va_K.moved (u := U) (U := U.calling g mk a) (Vm.Alike.refl U.vm) qK, qD⟩, va_recv hKc hPc (ci := 5) (q0 := 0) rfl rfl, fun U hU hW => ⟨rfl, by rw [hU], by rw [hU]; exact hPc, va_K.moved hW.alike hKc, hDc.weaken (fun _ _ _ _ => trivial)⟩⟩ rfl rfl hl.1 rfl (lv_room (Nat.le_of_ble_eq_true rfl)) dX11_apart_4 ⟨Nat.le_of_ble_eq_true rfl, Nat.le_of_ble_eq_true rfl⟩) hS (fun q _ h => hFc q h) hFc (fun ra1 u t H1 locs ht hvm hw hB hz1 hk1 hS => ?_)
  obtain ⟨hP1, hK1, hD1⟩ := hB
  rw [ht] at hP1
  obtain ⟨hP, hD⟩ := va_join (wr := [(h0, .inr (11, [.ref r0, .ref r1, .ref r2, .ref r3, .ref h1, .ref r4, .ref r5, .ref r6, .ref r7, .ref r8, .ref r9, .ref r10, .ref r11, .ref r12, .int 0, .int 5, .long 0]))]) (w1 := [(h1, .inr (5, [.ref r13, .ref r14, .int 0, .int 0]))]) hP hD [1] [0] rfl rfl (by decide) (by decide) hk1 hFc hP1 hD1
  generalize H1 = H at hP hS ⊢
  have hP : va_P (dC, dI) vwCl [(h0, .inr (11, [.ref r0, .ref r1, .ref r2, .ref r3, .ref h1, .ref r4, .ref r5, .ref r6, .ref r7, .ref r8, .ref r9, .ref r10, .ref r11, .ref r12, .int 0, .int 5, .long 0])), (h1, .inr (5, [.ref r13, .ref r14, .int 0, .int 0]))] H := hP
  have hD : va_D A [(h0, .inr (11, [.ref r0, .ref r1, .ref r2, .ref r3, .ref h1, .ref r4, .ref r5, .ref r6, .ref r7, .ref r8, .ref r9, .ref r10, .ref r11, .ref r12, .int 0, .int 5, .long 0])), (h1, .inr (5, [.ref r13, .ref r14, .int 0, .int 0]))] := hD
  obtain rfl : ra1 = (0 : Int32) := hw
  refine lv_if_eq (tgt := 19) hx hb dX11_apart_7 (by decide) (fun _ => ?_) (fun c => absurd (by decide) c)
  refine lv_iconst (v := (-1)) hx hb dX11_apart_19 (by decide) ?_
  have hP9 := hP.sub (ws' := [(h0, .inr (11, [.ref r0, .ref r1, .ref r2, .ref r3, .ref h1, .ref r4, .ref r5, .ref r6, .ref r7, .ref r8, .ref r9, .ref r10, .ref r11, .ref r12, .int 0, .int 5, .long 0])), (h1, .inr (5, [.ref r13, .ref r14, .int 0, .int 0]))]) [0, 1] rfl
  have hD9 := hD.sub (ws' := [(h0, .inr (11, [.ref r0, .ref r1, .ref r2, .ref r3, .ref h1, .ref r4, .ref r5, .ref r6, .ref r7, .ref r8, .ref r9, .ref r10, .ref r11, .ref r12, .int 0, .int 5, .long 0])), (h1, .inr (5, [.ref r13, .ref r14, .int 0, .int 0]))]) [0, 1] (by decide) rfl
  have hK9 := hK.sub (tys' := []) [] rfl
  exact W.iret (v := (-1)) hx hb hr (fun t ht hW => ⟨⟨(-1), (), rfl, rfl, by rw [ht]; exact hP9, va_K.moved hW.alike hK9, hD9⟩, hS.F ht⟩) hS.2.2 dX11_apart_20
def q_X11_roar : List Cond := .code yX11_roar cX11_roar 1 (some .int) :: (([.fieldLink RX11 42 "LeftArguments" "office" "LLeftArguments$Office;", .code yX5_stands cX5_stands 1 (some .boolean), .fieldLink RX5 24 "LeftArguments$Office" "stands" "Z", .initialized RX5, .instanceMethod yX5_stands, .selects RX5 yX5_stands yX5_stands, .methodLink RX11 159 yX5_stands] : List Cond) ++ wsX110 ++ wsX50)
set_option maxRecDepth 20000 in
theorem g_X11_roar_0 : GoodIn q_X11_roar (wsV RX11 159 RX5 yX5_stands q_X5_stands) := goodIn_app (goodIn_r _ [7, 5, 6, 4] (by decide +kernel) (by decide +kernel)) (goodIn_ca (goodIn_r (.code yX5_stands cX5_stands 1 (some .boolean) :: [.fieldLink RX5 24 "LeftArguments$Office" "stands" "Z"]) [2, 3] (by decide +kernel) (by decide +kernel)) (goodIn_sub (fun _ h => List.mem_cons_of_mem _ (List.mem_append_right _ h)) gwX5))
set_option maxHeartbeats 4000000 in
set_option maxRecDepth 100000 in
theorem k_X11_roar (l : Launch) (dC : Nat → ClassId) (dI : Nat → Nat → Nat) (h0 h1 : Nat) (r0 r1 r2 r3 r4 r5 r6 r7 r8 r9 r10 r11 r12 r13 r14 : Nat) (sz : Nat) : Met l yX11_roar q_X11_roar ({ frames := 1, cells := 0, slots := 0, locals := 20 }) (va_Pc [.ref h0] (fun U => U.heap.size = sz ∧ va_P (dC, dI) vwCl [(h0, .inr (11, [.ref r0, .ref r1, .ref r2, .ref r3, .ref h1, .ref r4, .ref r5, .ref r6, .ref r7, .ref r8, .ref r9, .ref r10, .ref r11, .ref r12, .int 0, .int 5, .long 0])), (h1, .inr (5, [.ref r13, .ref r14, .int 0, .int 0]))] U.heap ∧ va_K (dC, dI) vwCl [] U ∧ va_D (fun _ => True) [(h0, .inr (11, [.ref r0, .ref r1, .ref r2, .ref r3, .ref h1, .ref r4, .ref r5, .ref r6, .ref r7, .ref r8, .ref r9, .ref r10, .ref r11, .ref r12, .int 0, .int 5, .long 0])), (h1, .inr (5, [.ref r13, .ref r14, .int 0, .int 0]))])) (va_Qi (fun (r : Int32) (_ : Unit) => r = (-1)) (fun (_ : Unit) (t : State) => va_P (dC, dI) vwCl [(h0, .inr (11, [.ref r0, .ref r1, .ref r2, .ref r3, .ref h1, .ref r4, .ref r5, .ref r6, .ref r7, .ref r8, .ref r9, .ref r10, .ref r11, .ref r12, .int 0, .int 5, .long 0])), (h1, .inr (5, [.ref r13, .ref r14, .int 0, .int 0]))] t.heap ∧ va_K (dC, dI) vwCl [] t ∧ va_D (va_A [(h0, .inr (11, [.ref r0, .ref r1, .ref r2, .ref r3, .ref h1, .ref r4, .ref r5, .ref r6, .ref r7, .ref r8, .ref r9, .ref r10, .ref r11, .ref r12, .int 0, .int 5, .long 0])), (h1, .inr (5, [.ref r13, .ref r14, .int 0, .int 0]))] sz) [(h0, .inr (11, [.ref r0, .ref r1, .ref r2, .ref r3, .ref h1, .ref r4, .ref r5, .ref r6, .ref r7, .ref r8, .ref r9, .ref r10, .ref r11, .ref r12, .int 0, .int 5, .long 0])), (h1, .inr (5, [.ref r13, .ref r14, .int 0, .int 0]))]) (va_A [(h0, .inr (11, [.ref r0, .ref r1, .ref r2, .ref r3, .ref h1, .ref r4, .ref r5, .ref r6, .ref r7, .ref r8, .ref r9, .ref r10, .ref r11, .ref r12, .int 0, .int 5, .long 0])), (h1, .inr (5, [.ref r13, .ref r14, .int 0, .int 0]))] sz)) 0 0 (va_A [(h0, .inr (11, [.ref r0, .ref r1, .ref r2, .ref r3, .ref h1, .ref r4, .ref r5, .ref r6, .ref r7, .ref r8, .ref r9, .ref r10, .ref r11, .ref r12, .int 0, .int 5, .long 0])), (h1, .inr (5, [.ref r13, .ref r14, .int 0, .int 0]))] sz) := by
  refine Met.ofW (cc := cX11_roar) (maxL := 1) (ret := (some .int)) (by decide) rfl ?_
  intro p e s m args below meth c s₁ B hml hv
  obtain ⟨rfl, hsz, hP, hK, hD0⟩ := hv
  have hx := B.exec
  have hb := B.bytes
  have hr := B.returns
  have hts := atoms_spec (ws := q_X11_roar) B.pre
  have hown : s.vm.findClass RX11 = some m.cls := findClass_of_methodNamed B.named
  have hlocks := B.notSynchronized
  subst hsz
  have hD := hD0.self (sz := s.heap.size)
  generalize hAe : va_A [(h0, .inr (11, [.ref r0, .ref r1, .ref r2, .ref r3, .ref h1, .ref r4, .ref r5, .ref r6, .ref r7, .ref r8, .ref r9, .ref r10, .ref r11, .ref r12, .int 0, .int 5, .long 0])), (h1, .inr (5, [.ref r13, .ref r14, .int 0, .int 0]))] s.heap.size = A at hD ⊢
  have hA : ∀ q : Nat, s.heap.size ≤ q → A q := fun q h => by rw [← hAe]; exact Or.inr h
  have hS : va_S A s.heap s.heap [] := va_S.rf
  have hl := lv_entry ([.ref h0]) (n := 1) (Nat.le_of_ble_eq_true rfl)
  rw [lg_entry_eq]
  generalize (lg_sl ([.ref h0]) ++ List.replicate (1 - (lg_sl ([.ref h0])).length) Slot.unset).toArray = ls at hl ⊢
  have hl : lv_has ls 1 [(0, .ref h0)] := hl
  refine lv_aload_n hx hb dX11_roar_0 rfl (lv_at hl 0 rfl) ?_
  refine va_get (D := (dC, dI)) (ci := 11) (v := .ref h1) (C := RX11) (T := TX11) (N := 17) hx hb hts (fun _ h => List.mem_cons_of_mem _ (List.mem_append_left _ (List.mem_append_right _ h))) hown hK hP 0 rfl rfl 4 (by decide) (hts (.fieldLink RX11 42 "LeftArguments" "office" "LLeftArguments$Office;") (List.mem_cons_of_mem _ (List.mem_append_left _ (List.mem_append_left _ (List.mem_of_getElem? (i := 0) rfl))))) (fun _ h9 => h9) rfl dX11_roar_1 ?_
  have hPc := hP.sub (ws' := [(h1, .inr (5, [.ref r13, .ref r14, .int 0, .int 0]))]) [1] rfl
  have hDc := hD.sub (ws' := [(h1, .inr (5, [.ref r13, .ref r14, .int 0, .int 0]))]) [1] (by decide) rfl
  have hKc := hK.sub (tys' := []) [] rfl
  have hFc := va_free (wc := [(h1, .inr (5, [.ref r13, .ref r14, .int 0, .int 0]))]) hD hS hA [1] rfl
  refine va_calli (va_runV (As := []) (rest := []) ⟨hx, hb, hml, hown, hts⟩ (k_X5_stands l dC dI h1 r13 r14  s.heap.size) (cwV 0 hts g_X11_roar_0 rfl rfl rfl (by decide +kernel) ⟨Nat.le_of_ble_eq_true rfl, Nat.le_of_ble_eq_true rfl⟩) ⟨fun a U g mk q => by obtain ⟨q0, q1, qP, qK, qD⟩ := q; exact ⟨q0, q1, qP, va_K.moved (u := U) (U := U.calling g mk a) (Vm.Alike.refl U.vm) qK, qD⟩, va_recv hKc hPc (ci := 5) (q0 := 0) rfl rfl, fun U hU hW => ⟨rfl, by rw [hU], by rw [hU]; exact hPc, va_K.moved hW.alike hKc, hDc.weaken (fun _ _ _ _ => trivial)⟩⟩ rfl rfl hl.1 rfl (lv_room (Nat.le_of_ble_eq_true rfl)) dX11_roar_4 ⟨Nat.le_of_ble_eq_true rfl, Nat.le_of_ble_eq_true rfl⟩) hS (fun q _ h => hFc q h) hFc (fun ra1 u t H1 locs ht hvm hw hB hz1 hk1 hS => ?_)
  obtain ⟨hP1, hK1, hD1⟩ := hB
  rw [ht] at hP1
  obtain ⟨hP, hD⟩ := va_join (wr := [(h0, .inr (11, [.ref r0, .ref r1, .ref r2, .ref r3, .ref h1, .ref r4, .ref r5, .ref r6, .ref r7, .ref r8, .ref r9, .ref r10, .ref r11, .ref r12, .int 0, .int 5, .long 0]))]) (w1 := [(h1, .inr (5, [.ref r13, .ref r14, .int 0, .int 0]))]) hP hD [1] [0] rfl rfl (by decide) (by decide) hk1 hFc hP1 hD1
  generalize H1 = H at hP hS ⊢
  have hP : va_P (dC, dI) vwCl [(h0, .inr (11, [.ref r0, .ref r1, .ref r2, .ref r3, .ref h1, .ref r4, .ref r5, .ref r6, .ref r7, .ref r8, .ref r9, .ref r10, .ref r11, .ref r12, .int 0, .int 5, .long 0])), (h1, .inr (5, [.ref r13, .ref r14, .int 0, .int 0]))] H := hP
  have hD : va_D A [(h0, .inr (11, [.ref r0, .ref r1, .ref r2, .ref r3, .ref h1, .ref r4, .ref r5, .ref r6, .ref r7, .ref r8, .ref r9, .ref r10, .ref r11, .ref r12, .int 0, .int 5, .long 0])), (h1, .inr (5, [.ref r13, .ref r14, .int 0, .int 0]))] := hD
  obtain rfl : ra1 = (0 : Int32) := hw
  refine lv_if_eq (tgt := 20) hx hb dX11_roar_7 (by decide) (fun _ => ?_) (fun c => absurd (by decide) c)
  refine lv_iconst (v := (-1)) hx hb dX11_roar_20 (by decide) ?_
  have hP9 := hP.sub (ws' := [(h0, .inr (11, [.ref r0, .ref r1, .ref r2, .ref r3, .ref h1, .ref r4, .ref r5, .ref r6, .ref r7, .ref r8, .ref r9, .ref r10, .ref r11, .ref r12, .int 0, .int 5, .long 0])), (h1, .inr (5, [.ref r13, .ref r14, .int 0, .int 0]))]) [0, 1] rfl
  have hD9 := hD.sub (ws' := [(h0, .inr (11, [.ref r0, .ref r1, .ref r2, .ref r3, .ref h1, .ref r4, .ref r5, .ref r6, .ref r7, .ref r8, .ref r9, .ref r10, .ref r11, .ref r12, .int 0, .int 5, .long 0])), (h1, .inr (5, [.ref r13, .ref r14, .int 0, .int 0]))]) [0, 1] (by decide) rfl
  have hK9 := hK.sub (tys' := []) [] rfl
  exact W.iret (v := (-1)) hx hb hr (fun t ht hW => ⟨⟨(-1), (), rfl, rfl, by rw [ht]; exact hP9, va_K.moved hW.alike hK9, hD9⟩, hS.F ht⟩) hS.2.2 dX11_roar_21
def q_X5_hasTold : List Cond := .code yX5_hasTold cX5_hasTold 2 (some .boolean) :: (([.fieldLink RX5 20 "LeftArguments$Office" "toldCount" "I"] : List Cond) ++ wsX50)
set_option maxHeartbeats 4000000 in
set_option maxRecDepth 100000 in
theorem k_X5_hasTold (l : Launch) (dC : Nat → ClassId) (dI : Nat → Nat → Nat) (h0 : Nat) (r0 r1 : Nat) (v0 : Int32) (sz : Nat) : Met l yX5_hasTold q_X5_hasTold ({ frames := 0, cells := 0, slots := 0, locals := 0 }) (va_Pc [.ref h0, .int v0] (fun U => U.heap.size = sz ∧ va_P (dC, dI) vwCl [(h0, .inr (5, [.ref r0, .ref r1, .int 0, .int 0]))] U.heap ∧ va_K (dC, dI) vwCl [] U ∧ va_D (fun _ => True) [(h0, .inr (5, [.ref r0, .ref r1, .int 0, .int 0]))])) (va_Qi (fun (r : Int32) (_ : Unit) => r = 0) (fun (_ : Unit) (t : State) => va_P (dC, dI) vwCl [(h0, .inr (5, [.ref r0, .ref r1, .int 0, .int 0]))] t.heap ∧ va_K (dC, dI) vwCl [] t ∧ va_D (va_A [(h0, .inr (5, [.ref r0, .ref r1, .int 0, .int 0]))] sz) [(h0, .inr (5, [.ref r0, .ref r1, .int 0, .int 0]))]) (va_A [(h0, .inr (5, [.ref r0, .ref r1, .int 0, .int 0]))] sz)) 0 0 (va_A [(h0, .inr (5, [.ref r0, .ref r1, .int 0, .int 0]))] sz) := by
  refine Met.ofW (cc := cX5_hasTold) (maxL := 2) (ret := (some .boolean)) (by decide) rfl ?_
  intro p e s m args below meth c s₁ B hml hv
  obtain ⟨rfl, hsz, hP, hK, hD0⟩ := hv
  have hx := B.exec
  have hb := B.bytes
  have hr := B.returns
  have hts := atoms_spec (ws := q_X5_hasTold) B.pre
  have hown : s.vm.findClass RX5 = some m.cls := findClass_of_methodNamed B.named
  have hlocks := B.notSynchronized
  subst hsz
  have hD := hD0.self (sz := s.heap.size)
  generalize hAe : va_A [(h0, .inr (5, [.ref r0, .ref r1, .int 0, .int 0]))] s.heap.size = A at hD ⊢
  have hA : ∀ q : Nat, s.heap.size ≤ q → A q := fun q h => by rw [← hAe]; exact Or.inr h
  have hS : va_S A s.heap s.heap [] := va_S.rf
  have hl := lv_entry ([.ref h0, .int v0]) (n := 2) (Nat.le_of_ble_eq_true rfl)
  rw [lg_entry_eq]
  generalize (lg_sl ([.ref h0, .int v0]) ++ List.replicate (2 - (lg_sl ([.ref h0, .int v0])).length) Slot.unset).toArray = ls at hl ⊢
  have hl : lv_has ls 2 [(0, .ref h0), (1, .int v0)] := hl
  refine lv_iload_n hx hb dX5_hasTold_0 rfl (lv_at hl 1 rfl) ?_
  refine lv_if_lt (tgt := 16) hx hb dX5_hasTold_1 (by decide) (fun c1 => ?_) (fun c1 => ?_)
  · skip
    refine lv_iconst (v := 0) hx hb dX5_hasTold_16 (by decide) ?_
    have hP9 := hP.sub (ws' := [(h0, .inr (5, [.ref r0, .ref r1, .int 0, .int 0]))]) [0] rfl
    have hD9 := hD.sub (ws' := [(h0, .inr (5, [.ref r0, .ref r1, .int 0, .int 0]))]) [0] (by decide) rfl
    have hK9 := hK.sub (tys' := []) [] rfl
    exact W.zret (v := 0) hx hb hr rfl (fun t ht hW => ⟨⟨0, (), rfl, rfl, by rw [ht]; exact hP9, va_K.moved hW.alike hK9, hD9⟩, hS.F ht⟩) hS.2.2 dX5_hasTold_17
  · skip
    refine lv_iload_n hx hb dX5_hasTold_4 rfl (lv_at hl 1 rfl) ?_
    refine lv_aload_n hx hb dX5_hasTold_5 rfl (lv_at hl 0 rfl) ?_
    refine va_get (D := (dC, dI)) (ci := 5) (v := .int 0) (C := RX5) (T := TX5) (N := 4) hx hb hts (fun _ h => List.mem_cons_of_mem _ (List.mem_append_right _ h)) hown hK hP 0 rfl rfl 2 (by decide) (hts (.fieldLink RX5 20 "LeftArguments$Office" "toldCount" "I") (List.mem_cons_of_mem _ (List.mem_append_left _ (List.mem_of_getElem? (i := 0) rfl)))) (fun _ h9 => h9) rfl dX5_hasTold_6 ?_
    refine lv_icmp_ge (tgt := 16) hx hb dX5_hasTold_9 (by decide) (fun _ => ?_) (fun c => absurd ((show (0 : Int32) ≤ v0 from Int32.le_iff_toInt_le.mpr (show (0) ≤ v0.toInt by (have t0 : ¬ v0.toInt < (0) := fun h9 => c1 (Int32.lt_iff_toInt_lt.mpr h9); omega)))) c)
    refine lv_iconst (v := 0) hx hb dX5_hasTold_16 (by decide) ?_
    have hP9 := hP.sub (ws' := [(h0, .inr (5, [.ref r0, .ref r1, .int 0, .int 0]))]) [0] rfl
    have hD9 := hD.sub (ws' := [(h0, .inr (5, [.ref r0, .ref r1, .int 0, .int 0]))]) [0] (by decide) rfl
    have hK9 := hK.sub (tys' := []) [] rfl
    exact W.zret (v := 0) hx hb hr rfl (fun t ht hW => ⟨⟨0, (), rfl, rfl, by rw [ht]; exact hP9, va_K.moved hW.alike hK9, hD9⟩, hS.F ht⟩) hS.2.2 dX5_hasTold_17
def q_X11_seen : List Cond := .code yX11_seen cX11_seen 5 (some .int) :: (([.fieldLink RX11 42 "LeftArguments" "office" "LLeftArguments$Office;", .code yX5_hasTold cX5_hasTold 2 (some .boolean), .fieldLink RX5 20 "LeftArguments$Office" "toldCount" "I", .initialized RX5, .instanceMethod yX5_hasTold, .selects RX5 yX5_hasTold yX5_hasTold, .methodLink RX11 319 yX5_hasTold] : List Cond) ++ wsX110 ++ wsX50)
set_option maxRecDepth 20000 in
theorem g_X11_seen_0 : GoodIn q_X11_seen (wsV RX11 319 RX5 yX5_hasTold q_X5_hasTold) := goodIn_app (goodIn_r _ [7, 5, 6, 4] (by decide +kernel) (by decide +kernel)) (goodIn_ca (goodIn_r (.code yX5_hasTold cX5_hasTold 2 (some .boolean) :: [.fieldLink RX5 20 "LeftArguments$Office" "toldCount" "I"]) [2, 3] (by decide +kernel) (by decide +kernel)) (goodIn_sub (fun _ h => List.mem_cons_of_mem _ (List.mem_append_right _ h)) gwX5))
set_option maxHeartbeats 4000000 in
set_option maxRecDepth 100000 in
theorem k_X11_seen (l : Launch) (dC : Nat → ClassId) (dI : Nat → Nat → Nat) (h0 h1 : Nat) (r0 r1 r2 r3 r4 r5 r6 r7 r8 r9 r10 r11 r12 r13 r14 : Nat) (v0 v1 v2 v3 : Int32) (sz : Nat) : Met l yX11_seen q_X11_seen ({ frames := 1, cells := 0, slots := 0, locals := 21 }) (va_Pc [.ref h0, .int v0, .int v1, .int v2, .int v3] (fun U => U.heap.size = sz ∧ va_P (dC, dI) vwCl [(h0, .inr (11, [.ref r0, .ref r1, .ref r2, .ref r3, .ref h1, .ref r4, .ref r5, .ref r6, .ref r7, .ref r8, .ref r9, .ref r10, .ref r11, .ref r12, .int 0, .int 5, .long 0])), (h1, .inr (5, [.ref r13, .ref r14, .int 0, .int 0]))] U.heap ∧ va_K (dC, dI) vwCl [] U ∧ va_D (fun _ => True) [(h0, .inr (11, [.ref r0, .ref r1, .ref r2, .ref r3, .ref h1, .ref r4, .ref r5, .ref r6, .ref r7, .ref r8, .ref r9, .ref r10, .ref r11, .ref r12, .int 0, .int 5, .long 0])), (h1, .inr (5, [.ref r13, .ref r14, .int 0, .int 0]))])) (va_Qi (fun (r : Int32) (_ : Unit) => r = (-1)) (fun (_ : Unit) (t : State) => va_P (dC, dI) vwCl [(h0, .inr (11, [.ref r0, .ref r1, .ref r2, .ref r3, .ref h1, .ref r4, .ref r5, .ref r6, .ref r7, .ref r8, .ref r9, .ref r10, .ref r11, .ref r12, .int 0, .int 5, .long 0])), (h1, .inr (5, [.ref r13, .ref r14, .int 0, .int 0]))] t.heap ∧ va_K (dC, dI) vwCl [] t ∧ va_D (va_A [(h0, .inr (11, [.ref r0, .ref r1, .ref r2, .ref r3, .ref h1, .ref r4, .ref r5, .ref r6, .ref r7, .ref r8, .ref r9, .ref r10, .ref r11, .ref r12, .int 0, .int 5, .long 0])), (h1, .inr (5, [.ref r13, .ref r14, .int 0, .int 0]))] sz) [(h0, .inr (11, [.ref r0, .ref r1, .ref r2, .ref r3, .ref h1, .ref r4, .ref r5, .ref r6, .ref r7, .ref r8, .ref r9, .ref r10, .ref r11, .ref r12, .int 0, .int 5, .long 0])), (h1, .inr (5, [.ref r13, .ref r14, .int 0, .int 0]))]) (va_A [(h0, .inr (11, [.ref r0, .ref r1, .ref r2, .ref r3, .ref h1, .ref r4, .ref r5, .ref r6, .ref r7, .ref r8, .ref r9, .ref r10, .ref r11, .ref r12, .int 0, .int 5, .long 0])), (h1, .inr (5, [.ref r13, .ref r14, .int 0, .int 0]))] sz)) 0 0 (va_A [(h0, .inr (11, [.ref r0, .ref r1, .ref r2, .ref r3, .ref h1, .ref r4, .ref r5, .ref r6, .ref r7, .ref r8, .ref r9, .ref r10, .ref r11, .ref r12, .int 0, .int 5, .long 0])), (h1, .inr (5, [.ref r13, .ref r14, .int 0, .int 0]))] sz) := by
  refine Met.ofW (cc := cX11_seen) (maxL := 5) (ret := (some .int)) (by decide) rfl ?_
  intro p e s m args below meth c s₁ B hml hv
  obtain ⟨rfl, hsz, hP, hK, hD0⟩ := hv
  have hx := B.exec
  have hb := B.bytes
  have hr := B.returns
  have hts := atoms_spec (ws := q_X11_seen) B.pre
  have hown : s.vm.findClass RX11 = some m.cls := findClass_of_methodNamed B.named
  have hlocks := B.notSynchronized
  subst hsz
  have hD := hD0.self (sz := s.heap.size)
  generalize hAe : va_A [(h0, .inr (11, [.ref r0, .ref r1, .ref r2, .ref r3, .ref h1, .ref r4, .ref r5, .ref r6, .ref r7, .ref r8, .ref r9, .ref r10, .ref r11, .ref r12, .int 0, .int 5, .long 0])), (h1, .inr (5, [.ref r13, .ref r14, .int 0, .int 0]))] s.heap.size = A at hD ⊢
  have hA : ∀ q : Nat, s.heap.size ≤ q → A q := fun q h => by rw [← hAe]; exact Or.inr h
  have hS : va_S A s.heap s.heap [] := va_S.rf
  have hl := lv_entry ([.ref h0, .int v0, .int v1, .int v2, .int v3]) (n := 5) (Nat.le_of_ble_eq_true rfl)
  rw [lg_entry_eq]
  generalize (lg_sl ([.ref h0, .int v0, .int v1, .int v2, .int v3]) ++ List.replicate (5 - (lg_sl ([.ref h0, .int v0, .int v1, .int v2, .int v3])).length) Slot.unset).toArray = ls at hl ⊢
  have hl : lv_has ls 5 [(0, .ref h0), (1, .int v0), (2, .int v1), (3, .int v2), (4, .int v3)] := hl
  refine lv_aload_n hx hb dX11_seen_0 rfl (lv_at hl 0 rfl) ?_
  refine va_get (D := (dC, dI)) (ci := 11) (v := .ref h1) (C := RX11) (T := TX11) (N := 17) hx hb hts (fun _ h => List.mem_cons_of_mem _ (List.mem_append_left _ (List.mem_append_right _ h))) hown hK hP 0 rfl rfl 4 (by decide) (hts (.fieldLink RX11 42 "LeftArguments" "office" "LLeftArguments$Office;") (List.mem_cons_of_mem _ (List.mem_append_left _ (List.mem_append_left _ (List.mem_of_getElem? (i := 0) rfl))))) (fun _ h9 => h9) rfl dX11_seen_1 ?_
  refine lv_iload_n hx hb dX11_seen_4 rfl (lv_at hl 1 rfl) ?_
  have hPc := hP.sub (ws' := [(h1, .inr (5, [.ref r13, .ref r14, .int 0, .int 0]))]) [1] rfl
  have hDc := hD.sub (ws' := [(h1, .inr (5, [.ref r13, .ref r14, .int 0, .int 0]))]) [1] (by decide) rfl
  have hKc := hK.sub (tys' := []) [] rfl
  have hFc := va_free (wc := [(h1, .inr (5, [.ref r13, .ref r14, .int 0, .int 0]))]) hD hS hA [1] rfl
  refine va_calli (va_runV (As := [.int v0]) (rest := []) ⟨hx, hb, hml, hown, hts⟩ (k_X5_hasTold l dC dI h1 r13 r14 v0  s.heap.size) (cwV 1 hts g_X11_seen_0 rfl rfl rfl (by decide +kernel) ⟨Nat.le_of_ble_eq_true rfl, Nat.le_of_ble_eq_true rfl⟩) ⟨fun a U g mk q => by obtain ⟨q0, q1, qP, qK, qD⟩ := q; exact ⟨q0, q1, qP, va_K.moved (u := U) (U := U.calling g mk a) (Vm.Alike.refl U.vm) qK, qD⟩, va_recv hKc hPc (ci := 5) (q0 := 0) rfl rfl, fun U hU hW => ⟨rfl, by rw [hU], by rw [hU]; exact hPc, va_K.moved hW.alike hKc, hDc.weaken (fun _ _ _ _ => trivial)⟩⟩ rfl rfl hl.1 rfl (lv_room (Nat.le_of_ble_eq_true rfl)) dX11_seen_5 ⟨Nat.le_of_ble_eq_true rfl, Nat.le_of_ble_eq_true rfl⟩) hS (fun q _ h => hFc q h) hFc (fun ra1 u t H1 locs ht hvm hw hB hz1 hk1 hS => ?_)
  obtain ⟨hP1, hK1, hD1⟩ := hB
  rw [ht] at hP1
  obtain ⟨hP, hD⟩ := va_join (wr := [(h0, .inr (11, [.ref r0, .ref r1, .ref r2, .ref r3, .ref h1, .ref r4, .ref r5, .ref r6, .ref r7, .ref r8, .ref r9, .ref r10, .ref r11, .ref r12, .int 0, .int 5, .long 0]))]) (w1 := [(h1, .inr (5, [.ref r13, .ref r14, .int 0, .int 0]))]) hP hD [1] [0] rfl rfl (by decide) (by decide) hk1 hFc hP1 hD1
  generalize H1 = H at hP hS ⊢
  have hP : va_P (dC, dI) vwCl [(h0, .inr (11, [.ref r0, .ref r1, .ref r2, .ref r3, .ref h1, .ref r4, .ref r5, .ref r6, .ref r7, .ref r8, .ref r9, .ref r10, .ref r11, .ref r12, .int 0, .int 5, .long 0])), (h1, .inr (5, [.ref r13, .ref r14, .int 0, .int 0]))] H := hP
  have hD : va_D A [(h0, .inr (11, [.ref r0, .ref r1, .ref r2, .ref r3, .ref h1, .ref r4, .ref r5, .ref r6, .ref r7, .ref r8, .ref r9, .ref r10, .ref r11, .ref r12, .int 0, .int 5, .long 0])), (h1, .inr (5, [.ref r13, .ref r14, .int 0, .int 0]))] := hD
  obtain rfl : ra1 = (0 : Int32) := hw
  refine lv_if_eq (tgt := 31) hx hb dX11_seen_8 (by decide) (fun _ => ?_) (fun c => absurd (by decide) c)
  refine lv_iconst (v := (-1)) hx hb dX11_seen_31 (by decide) ?_
  have hP9 := hP.sub (ws' := [(h0, .inr (11, [.ref r0, .ref r1, .ref r2, .ref r3, .ref h1, .ref r4, .ref r5, .ref r6, .ref r7, .ref r8, .ref r9, .ref r10, .ref r11, .ref r12, .int 0, .int 5, .long 0])), (h1, .inr (5, [.ref r13, .ref r14, .int 0, .int 0]))]) [0, 1] rfl
  have hD9 := hD.sub (ws' := [(h0, .inr (11, [.ref r0, .ref r1, .ref r2, .ref r3, .ref h1, .ref r4, .ref r5, .ref r6, .ref r7, .ref r8, .ref r9, .ref r10, .ref r11, .ref r12, .int 0, .int 5, .long 0])), (h1, .inr (5, [.ref r13, .ref r14, .int 0, .int 0]))]) [0, 1] (by decide) rfl
  have hK9 := hK.sub (tys' := []) [] rfl
  exact W.iret (v := (-1)) hx hb hr (fun t ht hW => ⟨⟨(-1), (), rfl, rfl, by rw [ht]; exact hP9, va_K.moved hW.alike hK9, hD9⟩, hS.F ht⟩) hS.2.2 dX11_seen_32
def q_X11_sizes : List Cond := .code yX11_sizes cX11_sizes 3 (some .int) :: (([.fieldLink RX11 42 "LeftArguments" "office" "LLeftArguments$Office;", .code yX5_hasTold cX5_hasTold 2 (some .boolean), .fieldLink RX5 20 "LeftArguments$Office" "toldCount" "I", .initialized RX5, .instanceMethod yX5_hasTold, .selects RX5 yX5_hasTold yX5_hasTold, .methodLink RX11 319 yX5_hasTold] : List Cond) ++ wsX110 ++ wsX50)
set_option maxRecDepth 20000 in
theorem g_X11_sizes_0 : GoodIn q_X11_sizes (wsV RX11 319 RX5 yX5_hasTold q_X5_hasTold) := goodIn_app (goodIn_r _ [7, 5, 6, 4] (by decide +kernel) (by decide +kernel)) (goodIn_ca (goodIn_r (.code yX5_hasTold cX5_hasTold 2 (some .boolean) :: [.fieldLink RX5 20 "LeftArguments$Office" "toldCount" "I"]) [2, 3] (by decide +kernel) (by decide +kernel)) (goodIn_sub (fun _ h => List.mem_cons_of_mem _ (List.mem_append_right _ h)) gwX5))
set_option maxHeartbeats 4000000 in
set_option maxRecDepth 100000 in
theorem k_X11_sizes (l : Launch) (dC : Nat → ClassId) (dI : Nat → Nat → Nat) (h0 h1 : Nat) (r0 r1 r2 r3 r4 r5 r6 r7 r8 r9 r10 r11 r12 r13 r14 : Nat) (v0 v1 : Int32) (sz : Nat) : Met l yX11_sizes q_X11_sizes ({ frames := 1, cells := 0, slots := 0, locals := 21 }) (va_Pc [.ref h0, .int v0, .int v1] (fun U => U.heap.size = sz ∧ va_P (dC, dI) vwCl [(h0, .inr (11, [.ref r0, .ref r1, .ref r2, .ref r3, .ref h1, .ref r4, .ref r5, .ref r6, .ref r7, .ref r8, .ref r9, .ref r10, .ref r11, .ref r12, .int 0, .int 5, .long 0])), (h1, .inr (5, [.ref r13, .ref r14, .int 0, .int 0]))] U.heap ∧ va_K (dC, dI) vwCl [] U ∧ va_D (fun _ => True) [(h0, .inr (11, [.ref r0, .ref r1, .ref r2, .ref r3, .ref h1, .ref r4, .ref r5, .ref r6, .ref r7, .ref r8, .ref r9, .ref r10, .ref r11, .ref r12, .int 0, .int 5, .long 0])), (h1, .inr (5, [.ref r13, .ref r14, .int 0, .int 0]))])) (va_Qi (fun (r : Int32) (_ : Unit) => r = (-1)) (fun (_ : Unit) (t : State) => va_P (dC, dI) vwCl [(h0, .inr (11, [.ref r0, .ref r1, .ref r2, .ref r3, .ref h1, .ref r4, .ref r5, .ref r6, .ref r7, .ref r8, .ref r9, .ref r10, .ref r11, .ref r12, .int 0, .int 5, .long 0])), (h1, .inr (5, [.ref r13, .ref r14, .int 0, .int 0]))] t.heap ∧ va_K (dC, dI) vwCl [] t ∧ va_D (va_A [(h0, .inr (11, [.ref r0, .ref r1, .ref r2, .ref r3, .ref h1, .ref r4, .ref r5, .ref r6, .ref r7, .ref r8, .ref r9, .ref r10, .ref r11, .ref r12, .int 0, .int 5, .long 0])), (h1, .inr (5, [.ref r13, .ref r14, .int 0, .int 0]))] sz) [(h0, .inr (11, [.ref r0, .ref r1, .ref r2, .ref r3, .ref h1, .ref r4, .ref r5, .ref r6, .ref r7, .ref r8, .ref r9, .ref r10, .ref r11, .ref r12, .int 0, .int 5, .long 0])), (h1, .inr (5, [.ref r13, .ref r14, .int 0, .int 0]))]) (va_A [(h0, .inr (11, [.ref r0, .ref r1, .ref r2, .ref r3, .ref h1, .ref r4, .ref r5, .ref r6, .ref r7, .ref r8, .ref r9, .ref r10, .ref r11, .ref r12, .int 0, .int 5, .long 0])), (h1, .inr (5, [.ref r13, .ref r14, .int 0, .int 0]))] sz)) 0 0 (va_A [(h0, .inr (11, [.ref r0, .ref r1, .ref r2, .ref r3, .ref h1, .ref r4, .ref r5, .ref r6, .ref r7, .ref r8, .ref r9, .ref r10, .ref r11, .ref r12, .int 0, .int 5, .long 0])), (h1, .inr (5, [.ref r13, .ref r14, .int 0, .int 0]))] sz) := by
  refine Met.ofW (cc := cX11_sizes) (maxL := 3) (ret := (some .int)) (by decide) rfl ?_
  intro p e s m args below meth c s₁ B hml hv
  obtain ⟨rfl, hsz, hP, hK, hD0⟩ := hv
  have hx := B.exec
  have hb := B.bytes
  have hr := B.returns
  have hts := atoms_spec (ws := q_X11_sizes) B.pre
  have hown : s.vm.findClass RX11 = some m.cls := findClass_of_methodNamed B.named
  have hlocks := B.notSynchronized
  subst hsz
  have hD := hD0.self (sz := s.heap.size)
  generalize hAe : va_A [(h0, .inr (11, [.ref r0, .ref r1, .ref r2, .ref r3, .ref h1, .ref r4, .ref r5, .ref r6, .ref r7, .ref r8, .ref r9, .ref r10, .ref r11, .ref r12, .int 0, .int 5, .long 0])), (h1, .inr (5, [.ref r13, .ref r14, .int 0, .int 0]))] s.heap.size = A at hD ⊢
  have hA : ∀ q : Nat, s.heap.size ≤ q → A q := fun q h => by rw [← hAe]; exact Or.inr h
  have hS : va_S A s.heap s.heap [] := va_S.rf
  have hl := lv_entry ([.ref h0, .int v0, .int v1]) (n := 3) (Nat.le_of_ble_eq_true rfl)
  rw [lg_entry_eq]
  generalize (lg_sl ([.ref h0, .int v0, .int v1]) ++ List.replicate (3 - (lg_sl ([.ref h0, .int v0, .int v1])).length) Slot.unset).toArray = ls at hl ⊢
  have hl : lv_has ls 3 [(0, .ref h0), (1, .int v0), (2, .int v1)] := hl
  refine lv_aload_n hx hb dX11_sizes_0 rfl (lv_at hl 0 rfl) ?_
  refine va_get (D := (dC, dI)) (ci := 11) (v := .ref h1) (C := RX11) (T := TX11) (N := 17) hx hb hts (fun _ h => List.mem_cons_of_mem _ (List.mem_append_left _ (List.mem_append_right _ h))) hown hK hP 0 rfl rfl 4 (by decide) (hts (.fieldLink RX11 42 "LeftArguments" "office" "LLeftArguments$Office;") (List.mem_cons_of_mem _ (List.mem_append_left _ (List.mem_append_left _ (List.mem_of_getElem? (i := 0) rfl))))) (fun _ h9 => h9) rfl dX11_sizes_1 ?_
  refine lv_iload_n hx hb dX11_sizes_4 rfl (lv_at hl 1 rfl) ?_
  have hPc := hP.sub (ws' := [(h1, .inr (5, [.ref r13, .ref r14, .int 0, .int 0]))]) [1] rfl
  have hDc := hD.sub (ws' := [(h1, .inr (5, [.ref r13, .ref r14, .int 0, .int 0]))]) [1] (by decide) rfl
  have hKc := hK.sub (tys' := []) [] rfl
  have hFc := va_free (wc := [(h1, .inr (5, [.ref r13, .ref r14, .int 0, .int 0]))]) hD hS hA [1] rfl
  refine va_calli (va_runV (As := [.int v0]) (rest := []) ⟨hx, hb, hml, hown, hts⟩ (k_X5_hasTold l dC dI h1 r13 r14 v0  s.heap.size) (cwV 1 hts g_X11_sizes_0 rfl rfl rfl (by decide +kernel) ⟨Nat.le_of_ble_eq_true rfl, Nat.le_of_ble_eq_true rfl⟩) ⟨fun a U g mk q => by obtain ⟨q0, q1, qP, qK, qD⟩ := q; exact ⟨q0, q1, qP, va_K.moved (u := U) (U := U.calling g mk a) (Vm.Alike.refl U.vm) qK, qD⟩, va_recv hKc hPc (ci := 5) (q0 := 0) rfl rfl, fun U hU hW => ⟨rfl, by rw [hU], by rw [hU]; exact hPc, va_K.moved hW.alike hKc, hDc.weaken (fun _ _ _ _ => trivial)⟩⟩ rfl rfl hl.1 rfl (lv_room (Nat.le_of_ble_eq_true rfl)) dX11_sizes_5 ⟨Nat.le_of_ble_eq_true rfl, Nat.le_of_ble_eq_true rfl⟩) hS (fun q _ h => hFc q h) hFc (fun ra1 u t H1 locs ht hvm hw hB hz1 hk1 hS => ?_)
  obtain ⟨hP1, hK1, hD1⟩ := hB
  rw [ht] at hP1
  obtain ⟨hP, hD⟩ := va_join (wr := [(h0, .inr (11, [.ref r0, .ref r1, .ref r2, .ref r3, .ref h1, .ref r4, .ref r5, .ref r6, .ref r7, .ref r8, .ref r9, .ref r10, .ref r11, .ref r12, .int 0, .int 5, .long 0]))]) (w1 := [(h1, .inr (5, [.ref r13, .ref r14, .int 0, .int 0]))]) hP hD [1] [0] rfl rfl (by decide) (by decide) hk1 hFc hP1 hD1
  generalize H1 = H at hP hS ⊢
  have hP : va_P (dC, dI) vwCl [(h0, .inr (11, [.ref r0, .ref r1, .ref r2, .ref r3, .ref h1, .ref r4, .ref r5, .ref r6, .ref r7, .ref r8, .ref r9, .ref r10, .ref r11, .ref r12, .int 0, .int 5, .long 0])), (h1, .inr (5, [.ref r13, .ref r14, .int 0, .int 0]))] H := hP
  have hD : va_D A [(h0, .inr (11, [.ref r0, .ref r1, .ref r2, .ref r3, .ref h1, .ref r4, .ref r5, .ref r6, .ref r7, .ref r8, .ref r9, .ref r10, .ref r11, .ref r12, .int 0, .int 5, .long 0])), (h1, .inr (5, [.ref r13, .ref r14, .int 0, .int 0]))] := hD
  obtain rfl : ra1 = (0 : Int32) := hw
  refine lv_if_eq (tgt := 16) hx hb dX11_sizes_8 (by decide) (fun _ => ?_) (fun c => absurd (by decide) c)
  refine lv_iconst (v := (-1)) hx hb dX11_sizes_16 (by decide) ?_
  have hP9 := hP.sub (ws' := [(h0, .inr (11, [.ref r0, .ref r1, .ref r2, .ref r3, .ref h1, .ref r4, .ref r5, .ref r6, .ref r7, .ref r8, .ref r9, .ref r10, .ref r11, .ref r12, .int 0, .int 5, .long 0])), (h1, .inr (5, [.ref r13, .ref r14, .int 0, .int 0]))]) [0, 1] rfl
  have hD9 := hD.sub (ws' := [(h0, .inr (11, [.ref r0, .ref r1, .ref r2, .ref r3, .ref h1, .ref r4, .ref r5, .ref r6, .ref r7, .ref r8, .ref r9, .ref r10, .ref r11, .ref r12, .int 0, .int 5, .long 0])), (h1, .inr (5, [.ref r13, .ref r14, .int 0, .int 0]))]) [0, 1] (by decide) rfl
  have hK9 := hK.sub (tys' := []) [] rfl
  exact W.iret (v := (-1)) hx hb hr (fun t ht hW => ⟨⟨(-1), (), rfl, rfl, by rw [ht]; exact hP9, va_K.moved hW.alike hK9, hD9⟩, hS.F ht⟩) hS.2.2 dX11_sizes_17
def q_X11_ask : List Cond := .code yX11_ask cX11_ask 3 (some .int) :: (([.fieldLink RX11 42 "LeftArguments" "office" "LLeftArguments$Office;", .code yX5_hasTold cX5_hasTold 2 (some .boolean), .fieldLink RX5 20 "LeftArguments$Office" "toldCount" "I", .initialized RX5, .instanceMethod yX5_hasTold, .selects RX5 yX5_hasTold yX5_hasTold, .methodLink RX11 319 yX5_hasTold] : List Cond) ++ wsX110 ++ wsX50)
set_option maxRecDepth 20000 in
theorem g_X11_ask_0 : GoodIn q_X11_ask (wsV RX11 319 RX5 yX5_hasTold q_X5_hasTold) := goodIn_app (goodIn_r _ [7, 5, 6, 4] (by decide +kernel) (by decide +kernel)) (goodIn_ca (goodIn_r (.code yX5_hasTold cX5_hasTold 2 (some .boolean) :: [.fieldLink RX5 20 "LeftArguments$Office" "toldCount" "I"]) [2, 3] (by decide +kernel) (by decide +kernel)) (goodIn_sub (fun _ h => List.mem_cons_of_mem _ (List.mem_append_right _ h)) gwX5))
set_option maxHeartbeats 4000000 in
set_option maxRecDepth 100000 in
theorem k_X11_ask (l : Launch) (dC : Nat → ClassId) (dI : Nat → Nat → Nat) (h0 h1 : Nat) (r0 r1 r2 r3 r4 r5 r6 r7 r8 r9 r10 r11 r12 r13 r14 : Nat) (v0 v1 : Int32) (sz : Nat) : Met l yX11_ask q_X11_ask ({ frames := 1, cells := 0, slots := 0, locals := 21 }) (va_Pc [.ref h0, .int v0, .int v1] (fun U => U.heap.size = sz ∧ va_P (dC, dI) vwCl [(h0, .inr (11, [.ref r0, .ref r1, .ref r2, .ref r3, .ref h1, .ref r4, .ref r5, .ref r6, .ref r7, .ref r8, .ref r9, .ref r10, .ref r11, .ref r12, .int 0, .int 5, .long 0])), (h1, .inr (5, [.ref r13, .ref r14, .int 0, .int 0]))] U.heap ∧ va_K (dC, dI) vwCl [] U ∧ va_D (fun _ => True) [(h0, .inr (11, [.ref r0, .ref r1, .ref r2, .ref r3, .ref h1, .ref r4, .ref r5, .ref r6, .ref r7, .ref r8, .ref r9, .ref r10, .ref r11, .ref r12, .int 0, .int 5, .long 0])), (h1, .inr (5, [.ref r13, .ref r14, .int 0, .int 0]))])) (va_Qi (fun (r : Int32) (_ : Unit) => r = (-1)) (fun (_ : Unit) (t : State) => va_P (dC, dI) vwCl [(h0, .inr (11, [.ref r0, .ref r1, .ref r2, .ref r3, .ref h1, .ref r4, .ref r5, .ref r6, .ref r7, .ref r8, .ref r9, .ref r10, .ref r11, .ref r12, .int 0, .int 5, .long 0])), (h1, .inr (5, [.ref r13, .ref r14, .int 0, .int 0]))] t.heap ∧ va_K (dC, dI) vwCl [] t ∧ va_D (va_A [(h0, .inr (11, [.ref r0, .ref r1, .ref r2, .ref r3, .ref h1, .ref r4, .ref r5, .ref r6, .ref r7, .ref r8, .ref r9, .ref r10, .ref r11, .ref r12, .int 0, .int 5, .long 0])), (h1, .inr (5, [.ref r13, .ref r14, .int 0, .int 0]))] sz) [(h0, .inr (11, [.ref r0, .ref r1, .ref r2, .ref r3, .ref h1, .ref r4, .ref r5, .ref r6, .ref r7, .ref r8, .ref r9, .ref r10, .ref r11, .ref r12, .int 0, .int 5, .long 0])), (h1, .inr (5, [.ref r13, .ref r14, .int 0, .int 0]))]) (va_A [(h0, .inr (11, [.ref r0, .ref r1, .ref r2, .ref r3, .ref h1, .ref r4, .ref r5, .ref r6, .ref r7, .ref r8, .ref r9, .ref r10, .ref r11, .ref r12, .int 0, .int 5, .long 0])), (h1, .inr (5, [.ref r13, .ref r14, .int 0, .int 0]))] sz)) 0 0 (va_A [(h0, .inr (11, [.ref r0, .ref r1, .ref r2, .ref r3, .ref h1, .ref r4, .ref r5, .ref r6, .ref r7, .ref r8, .ref r9, .ref r10, .ref r11, .ref r12, .int 0, .int 5, .long 0])), (h1, .inr (5, [.ref r13, .ref r14, .int 0, .int 0]))] sz) := by
  refine Met.ofW (cc := cX11_ask) (maxL := 3) (ret := (some .int)) (by decide) rfl ?_
  intro p e s m args below meth c s₁ B hml hv
  obtain ⟨rfl, hsz, hP, hK, hD0⟩ := hv
  have hx := B.exec
  have hb := B.bytes
  have hr := B.returns
  have hts := atoms_spec (ws := q_X11_ask) B.pre
  have hown : s.vm.findClass RX11 = some m.cls := findClass_of_methodNamed B.named
  have hlocks := B.notSynchronized
  subst hsz
  have hD := hD0.self (sz := s.heap.size)
  generalize hAe : va_A [(h0, .inr (11, [.ref r0, .ref r1, .ref r2, .ref r3, .ref h1, .ref r4, .ref r5, .ref r6, .ref r7, .ref r8, .ref r9, .ref r10, .ref r11, .ref r12, .int 0, .int 5, .long 0])), (h1, .inr (5, [.ref r13, .ref r14, .int 0, .int 0]))] s.heap.size = A at hD ⊢
  have hA : ∀ q : Nat, s.heap.size ≤ q → A q := fun q h => by rw [← hAe]; exact Or.inr h
  have hS : va_S A s.heap s.heap [] := va_S.rf
  have hl := lv_entry ([.ref h0, .int v0, .int v1]) (n := 3) (Nat.le_of_ble_eq_true rfl)
  rw [lg_entry_eq]
  generalize (lg_sl ([.ref h0, .int v0, .int v1]) ++ List.replicate (3 - (lg_sl ([.ref h0, .int v0, .int v1])).length) Slot.unset).toArray = ls at hl ⊢
  have hl : lv_has ls 3 [(0, .ref h0), (1, .int v0), (2, .int v1)] := hl
  refine lv_aload_n hx hb dX11_ask_0 rfl (lv_at hl 0 rfl) ?_
  refine va_get (D := (dC, dI)) (ci := 11) (v := .ref h1) (C := RX11) (T := TX11) (N := 17) hx hb hts (fun _ h => List.mem_cons_of_mem _ (List.mem_append_left _ (List.mem_append_right _ h))) hown hK hP 0 rfl rfl 4 (by decide) (hts (.fieldLink RX11 42 "LeftArguments" "office" "LLeftArguments$Office;") (List.mem_cons_of_mem _ (List.mem_append_left _ (List.mem_append_left _ (List.mem_of_getElem? (i := 0) rfl))))) (fun _ h9 => h9) rfl dX11_ask_1 ?_
  refine lv_iload_n hx hb dX11_ask_4 rfl (lv_at hl 1 rfl) ?_
  have hPc := hP.sub (ws' := [(h1, .inr (5, [.ref r13, .ref r14, .int 0, .int 0]))]) [1] rfl
  have hDc := hD.sub (ws' := [(h1, .inr (5, [.ref r13, .ref r14, .int 0, .int 0]))]) [1] (by decide) rfl
  have hKc := hK.sub (tys' := []) [] rfl
  have hFc := va_free (wc := [(h1, .inr (5, [.ref r13, .ref r14, .int 0, .int 0]))]) hD hS hA [1] rfl
  refine va_calli (va_runV (As := [.int v0]) (rest := []) ⟨hx, hb, hml, hown, hts⟩ (k_X5_hasTold l dC dI h1 r13 r14 v0  s.heap.size) (cwV 1 hts g_X11_ask_0 rfl rfl rfl (by decide +kernel) ⟨Nat.le_of_ble_eq_true rfl, Nat.le_of_ble_eq_true rfl⟩) ⟨fun a U g mk q => by obtain ⟨q0, q1, qP, qK, qD⟩ := q; exact ⟨q0, q1, qP, va_K.moved (u := U) (U := U.calling g mk a) (Vm.Alike.refl U.vm) qK, qD⟩, va_recv hKc hPc (ci := 5) (q0 := 0) rfl rfl, fun U hU hW => ⟨rfl, by rw [hU], by rw [hU]; exact hPc, va_K.moved hW.alike hKc, hDc.weaken (fun _ _ _ _ => trivial)⟩⟩ rfl rfl hl.1 rfl (lv_room (Nat.le_of_ble_eq_true rfl)) dX11_ask_5 ⟨Nat.le_of_ble_eq_true rfl, Nat.le_of_ble_eq_true rfl⟩) hS (fun q _ h => hFc q h) hFc (fun ra1 u t H1 locs ht hvm hw hB hz1 hk1 hS => ?_)
  obtain ⟨hP1, hK1, hD1⟩ := hB
  rw [ht] at hP1
  obtain ⟨hP, hD⟩ := va_join (wr := [(h0, .inr (11, [.ref r0, .ref r1, .ref r2, .ref r3, .ref h1, .ref r4, .ref r5, .ref r6, .ref r7, .ref r8, .ref r9, .ref r10, .ref r11, .ref r12, .int 0, .int 5, .long 0]))]) (w1 := [(h1, .inr (5, [.ref r13, .ref r14, .int 0, .int 0]))]) hP hD [1] [0] rfl rfl (by decide) (by decide) hk1 hFc hP1 hD1
  generalize H1 = H at hP hS ⊢
  have hP : va_P (dC, dI) vwCl [(h0, .inr (11, [.ref r0, .ref r1, .ref r2, .ref r3, .ref h1, .ref r4, .ref r5, .ref r6, .ref r7, .ref r8, .ref r9, .ref r10, .ref r11, .ref r12, .int 0, .int 5, .long 0])), (h1, .inr (5, [.ref r13, .ref r14, .int 0, .int 0]))] H := hP
  have hD : va_D A [(h0, .inr (11, [.ref r0, .ref r1, .ref r2, .ref r3, .ref h1, .ref r4, .ref r5, .ref r6, .ref r7, .ref r8, .ref r9, .ref r10, .ref r11, .ref r12, .int 0, .int 5, .long 0])), (h1, .inr (5, [.ref r13, .ref r14, .int 0, .int 0]))] := hD
  obtain rfl : ra1 = (0 : Int32) := hw
  refine lv_if_eq (tgt := 21) hx hb dX11_ask_8 (by decide) (fun _ => ?_) (fun c => absurd (by decide) c)
  refine lv_iconst (v := (-1)) hx hb dX11_ask_21 (by decide) ?_
  have hP9 := hP.sub (ws' := [(h0, .inr (11, [.ref r0, .ref r1, .ref r2, .ref r3, .ref h1, .ref r4, .ref r5, .ref r6, .ref r7, .ref r8, .ref r9, .ref r10, .ref r11, .ref r12, .int 0, .int 5, .long 0])), (h1, .inr (5, [.ref r13, .ref r14, .int 0, .int 0]))]) [0, 1] rfl
  have hD9 := hD.sub (ws' := [(h0, .inr (11, [.ref r0, .ref r1, .ref r2, .ref r3, .ref h1, .ref r4, .ref r5, .ref r6, .ref r7, .ref r8, .ref r9, .ref r10, .ref r11, .ref r12, .int 0, .int 5, .long 0])), (h1, .inr (5, [.ref r13, .ref r14, .int 0, .int 0]))]) [0, 1] (by decide) rfl
  have hK9 := hK.sub (tys' := []) [] rfl
  exact W.iret (v := (-1)) hx hb hr (fun t ht hW => ⟨⟨(-1), (), rfl, rfl, by rw [ht]; exact hP9, va_K.moved hW.alike hK9, hD9⟩, hS.F ht⟩) hS.2.2 dX11_ask_22
def q_X11_sale : List Cond := .code yX11_sale cX11_sale 2 (some .int) :: (([.fieldLink RX11 42 "LeftArguments" "office" "LLeftArguments$Office;", .code yX5_stands cX5_stands 1 (some .boolean), .fieldLink RX5 24 "LeftArguments$Office" "stands" "Z", .initialized RX5, .instanceMethod yX5_stands, .selects RX5 yX5_stands yX5_stands, .methodLink RX11 159 yX5_stands] : List Cond) ++ wsX110 ++ wsX50)
set_option maxRecDepth 20000 in
theorem g_X11_sale_0 : GoodIn q_X11_sale (wsV RX11 159 RX5 yX5_stands q_X5_stands) := goodIn_app (goodIn_r _ [7, 5, 6, 4] (by decide +kernel) (by decide +kernel)) (goodIn_ca (goodIn_r (.code yX5_stands cX5_stands 1 (some .boolean) :: [.fieldLink RX5 24 "LeftArguments$Office" "stands" "Z"]) [2, 3] (by decide +kernel) (by decide +kernel)) (goodIn_sub (fun _ h => List.mem_cons_of_mem _ (List.mem_append_right _ h)) gwX5))
set_option maxHeartbeats 4000000 in
set_option maxRecDepth 100000 in
theorem k_X11_sale (l : Launch) (dC : Nat → ClassId) (dI : Nat → Nat → Nat) (h0 h1 : Nat) (r0 r1 r2 r3 r4 r5 r6 r7 r8 r9 r10 r11 r12 r13 r14 : Nat) (v0 : Int32) (sz : Nat) : Met l yX11_sale q_X11_sale ({ frames := 1, cells := 0, slots := 0, locals := 20 }) (va_Pc [.ref h0, .int v0] (fun U => U.heap.size = sz ∧ va_P (dC, dI) vwCl [(h0, .inr (11, [.ref r0, .ref r1, .ref r2, .ref r3, .ref h1, .ref r4, .ref r5, .ref r6, .ref r7, .ref r8, .ref r9, .ref r10, .ref r11, .ref r12, .int 0, .int 5, .long 0])), (h1, .inr (5, [.ref r13, .ref r14, .int 0, .int 0]))] U.heap ∧ va_K (dC, dI) vwCl [] U ∧ va_D (fun _ => True) [(h0, .inr (11, [.ref r0, .ref r1, .ref r2, .ref r3, .ref h1, .ref r4, .ref r5, .ref r6, .ref r7, .ref r8, .ref r9, .ref r10, .ref r11, .ref r12, .int 0, .int 5, .long 0])), (h1, .inr (5, [.ref r13, .ref r14, .int 0, .int 0]))])) (va_Qi (fun (r : Int32) (_ : Unit) => r = (-1)) (fun (_ : Unit) (t : State) => va_P (dC, dI) vwCl [(h0, .inr (11, [.ref r0, .ref r1, .ref r2, .ref r3, .ref h1, .ref r4, .ref r5, .ref r6, .ref r7, .ref r8, .ref r9, .ref r10, .ref r11, .ref r12, .int 0, .int 5, .long 0])), (h1, .inr (5, [.ref r13, .ref r14, .int 0, .int 0]))] t.heap ∧ va_K (dC, dI) vwCl [] t ∧ va_D (va_A [(h0, .inr (11, [.ref r0, .ref r1, .ref r2, .ref r3, .ref h1, .ref r4, .ref r5, .ref r6, .ref r7, .ref r8, .ref r9, .ref r10, .ref r11, .ref r12, .int 0, .int 5, .long 0])), (h1, .inr (5, [.ref r13, .ref r14, .int 0, .int 0]))] sz) [(h0, .inr (11, [.ref r0, .ref r1, .ref r2, .ref r3, .ref h1, .ref r4, .ref r5, .ref r6, .ref r7, .ref r8, .ref r9, .ref r10, .ref r11, .ref r12, .int 0, .int 5, .long 0])), (h1, .inr (5, [.ref r13, .ref r14, .int 0, .int 0]))]) (va_A [(h0, .inr (11, [.ref r0, .ref r1, .ref r2, .ref r3, .ref h1, .ref r4, .ref r5, .ref r6, .ref r7, .ref r8, .ref r9, .ref r10, .ref r11, .ref r12, .int 0, .int 5, .long 0])), (h1, .inr (5, [.ref r13, .ref r14, .int 0, .int 0]))] sz)) 0 0 (va_A [(h0, .inr (11, [.ref r0, .ref r1, .ref r2, .ref r3, .ref h1, .ref r4, .ref r5, .ref r6, .ref r7, .ref r8, .ref r9, .ref r10, .ref r11, .ref r12, .int 0, .int 5, .long 0])), (h1, .inr (5, [.ref r13, .ref r14, .int 0, .int 0]))] sz) := by
  refine Met.ofW (cc := cX11_sale) (maxL := 2) (ret := (some .int)) (by decide) rfl ?_
  intro p e s m args below meth c s₁ B hml hv
  obtain ⟨rfl, hsz, hP, hK, hD0⟩ := hv
  have hx := B.exec
  have hb := B.bytes
  have hr := B.returns
  have hts := atoms_spec (ws := q_X11_sale) B.pre
  have hown : s.vm.findClass RX11 = some m.cls := findClass_of_methodNamed B.named
  have hlocks := B.notSynchronized
  subst hsz
  have hD := hD0.self (sz := s.heap.size)
  generalize hAe : va_A [(h0, .inr (11, [.ref r0, .ref r1, .ref r2, .ref r3, .ref h1, .ref r4, .ref r5, .ref r6, .ref r7, .ref r8, .ref r9, .ref r10, .ref r11, .ref r12, .int 0, .int 5, .long 0])), (h1, .inr (5, [.ref r13, .ref r14, .int 0, .int 0]))] s.heap.size = A at hD ⊢
  have hA : ∀ q : Nat, s.heap.size ≤ q → A q := fun q h => by rw [← hAe]; exact Or.inr h
  have hS : va_S A s.heap s.heap [] := va_S.rf
  have hl := lv_entry ([.ref h0, .int v0]) (n := 2) (Nat.le_of_ble_eq_true rfl)
  rw [lg_entry_eq]
  generalize (lg_sl ([.ref h0, .int v0]) ++ List.replicate (2 - (lg_sl ([.ref h0, .int v0])).length) Slot.unset).toArray = ls at hl ⊢
  have hl : lv_has ls 2 [(0, .ref h0), (1, .int v0)] := hl
  refine lv_aload_n hx hb dX11_sale_0 rfl (lv_at hl 0 rfl) ?_
  refine va_get (D := (dC, dI)) (ci := 11) (v := .ref h1) (C := RX11) (T := TX11) (N := 17) hx hb hts (fun _ h => List.mem_cons_of_mem _ (List.mem_append_left _ (List.mem_append_right _ h))) hown hK hP 0 rfl rfl 4 (by decide) (hts (.fieldLink RX11 42 "LeftArguments" "office" "LLeftArguments$Office;") (List.mem_cons_of_mem _ (List.mem_append_left _ (List.mem_append_left _ (List.mem_of_getElem? (i := 0) rfl))))) (fun _ h9 => h9) rfl dX11_sale_1 ?_
  have hPc := hP.sub (ws' := [(h1, .inr (5, [.ref r13, .ref r14, .int 0, .int 0]))]) [1] rfl
  have hDc := hD.sub (ws' := [(h1, .inr (5, [.ref r13, .ref r14, .int 0, .int 0]))]) [1] (by decide) rfl
  have hKc := hK.sub (tys' := []) [] rfl
  have hFc := va_free (wc := [(h1, .inr (5, [.ref r13, .ref r14, .int 0, .int 0]))]) hD hS hA [1] rfl
  refine va_calli (va_runV (As := []) (rest := []) ⟨hx, hb, hml, hown, hts⟩ (k_X5_stands l dC dI h1 r13 r14  s.heap.size) (cwV 0 hts g_X11_sale_0 rfl rfl rfl (by decide +kernel) ⟨Nat.le_of_ble_eq_true rfl, Nat.le_of_ble_eq_true rfl⟩) ⟨fun a U g mk q => by obtain ⟨q0, q1, qP, qK, qD⟩ := q; exact ⟨q0, q1, qP, va_K.moved (u := U) (U := U.calling g mk a) (Vm.Alike.refl U.vm) qK, qD⟩, va_recv hKc hPc (ci := 5) (q0 := 0) rfl rfl, fun U hU hW => ⟨rfl, by rw [hU], by rw [hU]; exact hPc, va_K.moved hW.alike hKc, hDc.weaken (fun _ _ _ _ => trivial)⟩⟩ rfl rfl hl.1 rfl (lv_room (Nat.le_of_ble_eq_true rfl)) dX11_sale_4 ⟨Nat.le_of_ble_eq_true rfl, Nat.le_of_ble_eq_true rfl⟩) hS (fun q _ h => hFc q h) hFc (fun ra1 u t H1 locs ht hvm hw hB hz1 hk1 hS => ?_)
  obtain ⟨hP1, hK1, hD1⟩ := hB
  rw [ht] at hP1
  obtain ⟨hP, hD⟩ := va_join (wr := [(h0, .inr (11, [.ref r0, .ref r1, .ref r2, .ref r3, .ref h1, .ref r4, .ref r5, .ref r6, .ref r7, .ref r8, .ref r9, .ref r10, .ref r11, .ref r12, .int 0, .int 5, .long 0]))]) (w1 := [(h1, .inr (5, [.ref r13, .ref r14, .int 0, .int 0]))]) hP hD [1] [0] rfl rfl (by decide) (by decide) hk1 hFc hP1 hD1
  generalize H1 = H at hP hS ⊢
  have hP : va_P (dC, dI) vwCl [(h0, .inr (11, [.ref r0, .ref r1, .ref r2, .ref r3, .ref h1, .ref r4, .ref r5, .ref r6, .ref r7, .ref r8, .ref r9, .ref r10, .ref r11, .ref r12, .int 0, .int 5, .long 0])), (h1, .inr (5, [.ref r13, .ref r14, .int 0, .int 0]))] H := hP
  have hD : va_D A [(h0, .inr (11, [.ref r0, .ref r1, .ref r2, .ref r3, .ref h1, .ref r4, .ref r5, .ref r6, .ref r7, .ref r8, .ref r9, .ref r10, .ref r11, .ref r12, .int 0, .int 5, .long 0])), (h1, .inr (5, [.ref r13, .ref r14, .int 0, .int 0]))] := hD
  obtain rfl : ra1 = (0 : Int32) := hw
  refine lv_if_eq (tgt := 32) hx hb dX11_sale_7 (by decide) (fun _ => ?_) (fun c => absurd (by decide) c)
  refine lv_iconst (v := (-1)) hx hb dX11_sale_32 (by decide) ?_
  have hP9 := hP.sub (ws' := [(h0, .inr (11, [.ref r0, .ref r1, .ref r2, .ref r3, .ref h1, .ref r4, .ref r5, .ref r6, .ref r7, .ref r8, .ref r9, .ref r10, .ref r11, .ref r12, .int 0, .int 5, .long 0])), (h1, .inr (5, [.ref r13, .ref r14, .int 0, .int 0]))]) [0, 1] rfl
  have hD9 := hD.sub (ws' := [(h0, .inr (11, [.ref r0, .ref r1, .ref r2, .ref r3, .ref h1, .ref r4, .ref r5, .ref r6, .ref r7, .ref r8, .ref r9, .ref r10, .ref r11, .ref r12, .int 0, .int 5, .long 0])), (h1, .inr (5, [.ref r13, .ref r14, .int 0, .int 0]))]) [0, 1] (by decide) rfl
  have hK9 := hK.sub (tys' := []) [] rfl
  exact W.iret (v := (-1)) hx hb hr (fun t ht hW => ⟨⟨(-1), (), rfl, rfl, by rw [ht]; exact hP9, va_K.moved hW.alike hK9, hD9⟩, hS.F ht⟩) hS.2.2 dX11_sale_33
def q_X11_game : List Cond := .code yX11_game cX11_game 5 (some .int) :: (([.fieldLink RX11 49 "LeftArguments" "room" "LLeftArguments$Room;", .code yX7_has cX7_has 2 (some .boolean), .fieldLink RX7 11 "LeftArguments$Room" "cells" "[I", .initialized RX7, .instanceMethod yX7_has, .selects RX7 yX7_has yX7_has, .methodLink RX11 169 yX7_has, .constant RX11 208 (-1000000)] : List Cond) ++ wsX110 ++ wsX70)
set_option maxRecDepth 20000 in
theorem g_X11_game_0 : GoodIn q_X11_game (wsV RX11 169 RX7 yX7_has q_X7_has) := goodIn_app (goodIn_r _ [7, 5, 6, 4] (by decide +kernel) (by decide +kernel)) (goodIn_ca (goodIn_r (.code yX7_has cX7_has 2 (some .boolean) :: [.fieldLink RX7 11 "LeftArguments$Room" "cells" "[I"]) [2, 3] (by decide +kernel) (by decide +kernel)) (goodIn_sub (fun _ h => List.mem_cons_of_mem _ (List.mem_append_right _ h)) gwX7))
set_option maxHeartbeats 4000000 in
set_option maxRecDepth 100000 in
theorem k_X11_game (l : Launch) (dC : Nat → ClassId) (dI : Nat → Nat → Nat) (g0 : ClassId) (h0 h1 h2 : Nat) (r0 r1 r2 r3 r4 r5 r6 r7 r8 r9 r10 r11 r12 r13 : Nat) (v0 v1 v2 v3 : Int32) (sz : Nat) : Met l yX11_game q_X11_game ({ frames := 1, cells := 0, slots := 0, locals := 21 }) (va_Pc [.ref h0, .int v0, .int v1, .int v2, .int v3] (fun U => U.heap.size = sz ∧ va_P (dC, dI) vwCl [(h0, .inr (11, [.ref r0, .ref r1, .ref r2, .ref r3, .ref r4, .ref h1, .ref r5, .ref r6, .ref r7, .ref r8, .ref r9, .ref r10, .ref r11, .ref r12, .int 0, .int 5, .long 0])), (h1, .inr (7, [.ref h2, .ref r13, .int 0, .int 0])), (h2, .inl (g0, 58, .inl (fun _ => 0)))] U.heap ∧ va_K (dC, dI) vwCl [(g0, .int)] U ∧ va_D (fun _ => True) [(h0, .inr (11, [.ref r0, .ref r1, .ref r2, .ref r3, .ref r4, .ref h1, .ref r5, .ref r6, .ref r7, .ref r8, .ref r9, .ref r10, .ref r11, .ref r12, .int 0, .int 5, .long 0])), (h1, .inr (7, [.ref h2, .ref r13, .int 0, .int 0])), (h2, .inl (g0, 58, .inl (fun _ => 0)))])) (va_Qi (fun (r : Int32) (_ : Unit) => r = (-1000000)) (fun (_ : Unit) (t : State) => va_P (dC, dI) vwCl [(h0, .inr (11, [.ref r0, .ref r1, .ref r2, .ref r3, .ref r4, .ref h1, .ref r5, .ref r6, .ref r7, .ref r8, .ref r9, .ref r10, .ref r11, .ref r12, .int 0, .int 5, .long 0])), (h1, .inr (7, [.ref h2, .ref r13, .int 0, .int 0])), (h2, .inl (g0, 58, .inl (fun _ => 0)))] t.heap ∧ va_K (dC, dI) vwCl [(g0, .int)] t ∧ va_D (va_A [(h0, .inr (11, [.ref r0, .ref r1, .ref r2, .ref r3, .ref r4, .ref h1, .ref r5, .ref r6, .ref r7, .ref r8, .ref r9, .ref r10, .ref r11, .ref r12, .int 0, .int 5, .long 0])), (h1, .inr (7, [.ref h2, .ref r13, .int 0, .int 0])), (h2, .inl (g0, 58, .inl (fun _ => 0)))] sz) [(h0, .inr (11, [.ref r0, .ref r1, .ref r2, .ref r3, .ref r4, .ref h1, .ref r5, .ref r6, .ref r7, .ref r8, .ref r9, .ref r10, .ref r11, .ref r12, .int 0, .int 5, .long 0])), (h1, .inr (7, [.ref h2, .ref r13, .int 0, .int 0])), (h2, .inl (g0, 58, .inl (fun _ => 0)))]) (va_A [(h0, .inr (11, [.ref r0, .ref r1, .ref r2, .ref r3, .ref r4, .ref h1, .ref r5, .ref r6, .ref r7, .ref r8, .ref r9, .ref r10, .ref r11, .ref r12, .int 0, .int 5, .long 0])), (h1, .inr (7, [.ref h2, .ref r13, .int 0, .int 0])), (h2, .inl (g0, 58, .inl (fun _ => 0)))] sz)) 0 0 (va_A [(h0, .inr (11, [.ref r0, .ref r1, .ref r2, .ref r3, .ref r4, .ref h1, .ref r5, .ref r6, .ref r7, .ref r8, .ref r9, .ref r10, .ref r11, .ref r12, .int 0, .int 5, .long 0])), (h1, .inr (7, [.ref h2, .ref r13, .int 0, .int 0])), (h2, .inl (g0, 58, .inl (fun _ => 0)))] sz) := by
  refine Met.ofW (cc := cX11_game) (maxL := 5) (ret := (some .int)) (by decide) rfl ?_
  intro p e s m args below meth c s₁ B hml hv
  obtain ⟨rfl, hsz, hP, hK, hD0⟩ := hv
  have hx := B.exec
  have hb := B.bytes
  have hr := B.returns
  have hts := atoms_spec (ws := q_X11_game) B.pre
  have hown : s.vm.findClass RX11 = some m.cls := findClass_of_methodNamed B.named
  have hlocks := B.notSynchronized
  subst hsz
  have hD := hD0.self (sz := s.heap.size)
  generalize hAe : va_A [(h0, .inr (11, [.ref r0, .ref r1, .ref r2, .ref r3, .ref r4, .ref h1, .ref r5, .ref r6, .ref r7, .ref r8, .ref r9, .ref r10, .ref r11, .ref r12, .int 0, .int 5, .long 0])), (h1, .inr (7, [.ref h2, .ref r13, .int 0, .int 0])), (h2, .inl (g0, 58, .inl (fun _ => 0)))] s.heap.size = A at hD ⊢
  have hA : ∀ q : Nat, s.heap.size ≤ q → A q := fun q h => by rw [← hAe]; exact Or.inr h
  have hS : va_S A s.heap s.heap [] := va_S.rf
  have hl := lv_entry ([.ref h0, .int v0, .int v1, .int v2, .int v3]) (n := 5) (Nat.le_of_ble_eq_true rfl)
  rw [lg_entry_eq]
  generalize (lg_sl ([.ref h0, .int v0, .int v1, .int v2, .int v3]) ++ List.replicate (5 - (lg_sl ([.ref h0, .int v0, .int v1, .int v2, .int v3])).length) Slot.unset).toArray = ls at hl ⊢
  have hl : lv_has ls 5 [(0, .ref h0), (1, .int v0), (2, .int v1), (3, .int v2), (4, .int v3)] := hl
  refine lv_aload_n hx hb dX11_game_0 rfl (lv_at hl 0 rfl) ?_
  refine va_get (D := (dC, dI)) (ci := 11) (v := .ref h1) (C := RX11) (T := TX11) (N := 17) hx hb hts (fun _ h => List.mem_cons_of_mem _ (List.mem_append_left _ (List.mem_append_right _ h))) hown hK hP 0 rfl rfl 5 (by decide) (hts (.fieldLink RX11 49 "LeftArguments" "room" "LLeftArguments$Room;") (List.mem_cons_of_mem _ (List.mem_append_left _ (List.mem_append_left _ (List.mem_of_getElem? (i := 0) rfl))))) (fun _ h9 => h9) rfl dX11_game_1 ?_
  refine lv_iload_n hx hb dX11_game_4 rfl (lv_at hl 1 rfl) ?_
  have hPc := hP.sub (ws' := [(h1, .inr (7, [.ref h2, .ref r13, .int 0, .int 0])), (h2, .inl (g0, 58, .inl (fun _ => 0)))]) [1, 2] rfl
  have hDc := hD.sub (ws' := [(h1, .inr (7, [.ref h2, .ref r13, .int 0, .int 0])), (h2, .inl (g0, 58, .inl (fun _ => 0)))]) [1, 2] (by decide) rfl
  have hKc := hK.sub (tys' := [(g0, .int)]) [0] rfl
  have hFc := va_free (wc := [(h1, .inr (7, [.ref h2, .ref r13, .int 0, .int 0])), (h2, .inl (g0, 58, .inl (fun _ => 0)))]) hD hS hA [1, 2] rfl
  refine va_calli (va_runV (As := [.int v0]) (rest := []) ⟨hx, hb, hml, hown, hts⟩ (k_X7_has l dC dI g0 h1 h2 r13 v0  s.heap.size) (cwV 1 hts g_X11_game_0 rfl rfl rfl (by decide +kernel) ⟨Nat.le_of_ble_eq_true rfl, Nat.le_of_ble_eq_true rfl⟩) ⟨fun a U g mk q => by obtain ⟨q0, q1, qP, qK, qD⟩ := q; exact ⟨q0, q1, qP, va_K.moved (u := U) (U := U.calling g mk a) (Vm.Alike.refl U.vm) qK, qD⟩, va_recv hKc hPc (ci := 7) (q0 := 0) rfl rfl, fun U hU hW => ⟨rfl, by rw [hU], by rw [hU]; exact hPc, va_K.moved hW.alike hKc, hDc.weaken (fun _ _ _ _ => trivial)⟩⟩ rfl rfl hl.1 rfl (lv_room (Nat.le_of_ble_eq_true rfl)) dX11_game_5 ⟨Nat.le_of_ble_eq_true rfl, Nat.le_of_ble_eq_true rfl⟩) hS (fun q _ h => hFc q h) hFc (fun ra1 u t H1 locs ht hvm hw hB hz1 hk1 hS => ?_)
  obtain ⟨hP1, hK1, hD1⟩ := hB
  rw [ht] at hP1
  obtain ⟨hP, hD⟩ := va_join (wr := [(h0, .inr (11, [.ref r0, .ref r1, .ref r2, .ref r3, .ref r4, .ref h1, .ref r5, .ref r6, .ref r7, .ref r8, .ref r9, .ref r10, .ref r11, .ref r12, .int 0, .int 5, .long 0]))]) (w1 := [(h1, .inr (7, [.ref h2, .ref r13, .int 0, .int 0])), (h2, .inl (g0, 58, .inl (fun _ => 0)))]) hP hD [1, 2] [0] rfl rfl (by decide) (by decide) hk1 hFc hP1 hD1
  generalize H1 = H at hP hS ⊢
  have hP : va_P (dC, dI) vwCl [(h0, .inr (11, [.ref r0, .ref r1, .ref r2, .ref r3, .ref r4, .ref h1, .ref r5, .ref r6, .ref r7, .ref r8, .ref r9, .ref r10, .ref r11, .ref r12, .int 0, .int 5, .long 0])), (h1, .inr (7, [.ref h2, .ref r13, .int 0, .int 0])), (h2, .inl (g0, 58, .inl (fun _ => 0)))] H := hP
  have hD : va_D A [(h0, .inr (11, [.ref r0, .ref r1, .ref r2, .ref r3, .ref r4, .ref h1, .ref r5, .ref r6, .ref r7, .ref r8, .ref r9, .ref r10, .ref r11, .ref r12, .int 0, .int 5, .long 0])), (h1, .inr (7, [.ref h2, .ref r13, .int 0, .int 0])), (h2, .inl (g0, 58, .inl (fun _ => 0)))] := hD
  obtain rfl : ra1 = (0 : Int32) := hw
  refine lv_if_eq (tgt := 39) hx hb dX11_game_8 (by decide) (fun _ => ?_) (fun c => absurd (by decide) c)
  refine lv_ldc (v := (-1000000)) hx hb hown (hts (.constant RX11 208 (-1000000)) (List.mem_cons_of_mem _ (List.mem_append_left _ (List.mem_append_left _ (List.mem_of_getElem? (i := 7) rfl))))) dX11_game_39 ?_
  have hP9 := hP.sub (ws' := [(h0, .inr (11, [.ref r0, .ref r1, .ref r2, .ref r3, .ref r4, .ref h1, .ref r5, .ref r6, .ref r7, .ref r8, .ref r9, .ref r10, .ref r11, .ref r12, .int 0, .int 5, .long 0])), (h1, .inr (7, [.ref h2, .ref r13, .int 0, .int 0])), (h2, .inl (g0, 58, .inl (fun _ => 0)))]) [0, 1, 2] rfl
  have hD9 := hD.sub (ws' := [(h0, .inr (11, [.ref r0, .ref r1, .ref r2, .ref r3, .ref r4, .ref h1, .ref r5, .ref r6, .ref r7, .ref r8, .ref r9, .ref r10, .ref r11, .ref r12, .int 0, .int 5, .long 0])), (h1, .inr (7, [.ref h2, .ref r13, .int 0, .int 0])), (h2, .inl (g0, 58, .inl (fun _ => 0)))]) [0, 1, 2] (by decide) rfl
  have hK9 := hK.sub (tys' := [(g0, .int)]) [0] rfl
  exact W.iret (v := (-1000000)) hx hb hr (fun t ht hW => ⟨⟨(-1000000), (), rfl, rfl, by rw [ht]; exact hP9, va_K.moved hW.alike hK9, hD9⟩, hS.F ht⟩) hS.2.2 dX11_game_41
def q_X11_rests : List Cond := .code yX11_rests cX11_rests 3 (some .int) :: (([.fieldLink RX11 49 "LeftArguments" "room" "LLeftArguments$Room;", .code yX7_has cX7_has 2 (some .boolean), .fieldLink RX7 11 "LeftArguments$Room" "cells" "[I", .initialized RX7, .instanceMethod yX7_has, .selects RX7 yX7_has yX7_has, .methodLink RX11 169 yX7_has] : List Cond) ++ wsX110 ++ wsX70)
set_option maxRecDepth 20000 in
theorem g_X11_rests_0 : GoodIn q_X11_rests (wsV RX11 169 RX7 yX7_has q_X7_has) := goodIn_app (goodIn_r _ [7, 5, 6, 4] (by decide +kernel) (by decide +kernel)) (goodIn_ca (goodIn_r (.code yX7_has cX7_has 2 (some .boolean) :: [.fieldLink RX7 11 "LeftArguments$Room" "cells" "[I"]) [2, 3] (by decide +kernel) (by decide +kernel)) (goodIn_sub (fun _ h => List.mem_cons_of_mem _ (List.mem_append_right _ h)) gwX7))
set_option maxHeartbeats 4000000 in
set_option maxRecDepth 100000 in
theorem k_X11_rests (l : Launch) (dC : Nat → ClassId) (dI : Nat → Nat → Nat) (g0 : ClassId) (h0 h1 h2 : Nat) (r0 r1 r2 r3 r4 r5 r6 r7 r8 r9 r10 r11 r12 r13 : Nat) (v0 v1 : Int32) (sz : Nat) : Met l yX11_rests q_X11_rests ({ frames := 1, cells := 0, slots := 0, locals := 21 }) (va_Pc [.ref h0, .int v0, .int v1] (fun U => U.heap.size = sz ∧ va_P (dC, dI) vwCl [(h0, .inr (11, [.ref r0, .ref r1, .ref r2, .ref r3, .ref r4, .ref h1, .ref r5, .ref r6, .ref r7, .ref r8, .ref r9, .ref r10, .ref r11, .ref r12, .int 0, .int 5, .long 0])), (h1, .inr (7, [.ref h2, .ref r13, .int 0, .int 0])), (h2, .inl (g0, 58, .inl (fun _ => 0)))] U.heap ∧ va_K (dC, dI) vwCl [(g0, .int)] U ∧ va_D (fun _ => True) [(h0, .inr (11, [.ref r0, .ref r1, .ref r2, .ref r3, .ref r4, .ref h1, .ref r5, .ref r6, .ref r7, .ref r8, .ref r9, .ref r10, .ref r11, .ref r12, .int 0, .int 5, .long 0])), (h1, .inr (7, [.ref h2, .ref r13, .int 0, .int 0])), (h2, .inl (g0, 58, .inl (fun _ => 0)))])) (va_Qi (fun (r : Int32) (_ : Unit) => r = (-1)) (fun (_ : Unit) (t : State) => va_P (dC, dI) vwCl [(h0, .inr (11, [.ref r0, .ref r1, .ref r2, .ref r3, .ref r4, .ref h1, .ref r5, .ref r6, .ref r7, .ref r8, .ref r9, .ref r10, .ref r11, .ref r12, .int 0, .int 5, .long 0])), (h1, .inr (7, [.ref h2, .ref r13, .int 0, .int 0])), (h2, .inl (g0, 58, .inl (fun _ => 0)))] t.heap ∧ va_K (dC, dI) vwCl [(g0, .int)] t ∧ va_D (va_A [(h0, .inr (11, [.ref r0, .ref r1, .ref r2, .ref r3, .ref r4, .ref h1, .ref r5, .ref r6, .ref r7, .ref r8, .ref r9, .ref r10, .ref r11, .ref r12, .int 0, .int 5, .long 0])), (h1, .inr (7, [.ref h2, .ref r13, .int 0, .int 0])), (h2, .inl (g0, 58, .inl (fun _ => 0)))] sz) [(h0, .inr (11, [.ref r0, .ref r1, .ref r2, .ref r3, .ref r4, .ref h1, .ref r5, .ref r6, .ref r7, .ref r8, .ref r9, .ref r10, .ref r11, .ref r12, .int 0, .int 5, .long 0])), (h1, .inr (7, [.ref h2, .ref r13, .int 0, .int 0])), (h2, .inl (g0, 58, .inl (fun _ => 0)))]) (va_A [(h0, .inr (11, [.ref r0, .ref r1, .ref r2, .ref r3, .ref r4, .ref h1, .ref r5, .ref r6, .ref r7, .ref r8, .ref r9, .ref r10, .ref r11, .ref r12, .int 0, .int 5, .long 0])), (h1, .inr (7, [.ref h2, .ref r13, .int 0, .int 0])), (h2, .inl (g0, 58, .inl (fun _ => 0)))] sz)) 0 0 (va_A [(h0, .inr (11, [.ref r0, .ref r1, .ref r2, .ref r3, .ref r4, .ref h1, .ref r5, .ref r6, .ref r7, .ref r8, .ref r9, .ref r10, .ref r11, .ref r12, .int 0, .int 5, .long 0])), (h1, .inr (7, [.ref h2, .ref r13, .int 0, .int 0])), (h2, .inl (g0, 58, .inl (fun _ => 0)))] sz) := by
  refine Met.ofW (cc := cX11_rests) (maxL := 3) (ret := (some .int)) (by decide) rfl ?_
  intro p e s m args below meth c s₁ B hml hv
  obtain ⟨rfl, hsz, hP, hK, hD0⟩ := hv
  have hx := B.exec
  have hb := B.bytes
  have hr := B.returns
  have hts := atoms_spec (ws := q_X11_rests) B.pre
  have hown : s.vm.findClass RX11 = some m.cls := findClass_of_methodNamed B.named
  have hlocks := B.notSynchronized
  subst hsz
  have hD := hD0.self (sz := s.heap.size)
  generalize hAe : va_A [(h0, .inr (11, [.ref r0, .ref r1, .ref r2, .ref r3, .ref r4, .ref h1, .ref r5, .ref r6, .ref r7, .ref r8, .ref r9, .ref r10, .ref r11, .ref r12, .int 0, .int 5, .long 0])), (h1, .inr (7, [.ref h2, .ref r13, .int 0, .int 0])), (h2, .inl (g0, 58, .inl (fun _ => 0)))] s.heap.size = A at hD ⊢
  have hA : ∀ q : Nat, s.heap.size ≤ q → A q := fun q h => by rw [← hAe]; exact Or.inr h
  have hS : va_S A s.heap s.heap [] := va_S.rf
  have hl := lv_entry ([.ref h0, .int v0, .int v1]) (n := 3) (Nat.le_of_ble_eq_true rfl)
  rw [lg_entry_eq]
  generalize (lg_sl ([.ref h0, .int v0, .int v1]) ++ List.replicate (3 - (lg_sl ([.ref h0, .int v0, .int v1])).length) Slot.unset).toArray = ls at hl ⊢
  have hl : lv_has ls 3 [(0, .ref h0), (1, .int v0), (2, .int v1)] := hl
  refine lv_aload_n hx hb dX11_rests_0 rfl (lv_at hl 0 rfl) ?_
  refine va_get (D := (dC, dI)) (ci := 11) (v := .ref h1) (C := RX11) (T := TX11) (N := 17) hx hb hts (fun _ h => List.mem_cons_of_mem _ (List.mem_append_left _ (List.mem_append_right _ h))) hown hK hP 0 rfl rfl 5 (by decide) (hts (.fieldLink RX11 49 "LeftArguments" "room" "LLeftArguments$Room;") (List.mem_cons_of_mem _ (List.mem_append_left _ (List.mem_append_left _ (List.mem_of_getElem? (i := 0) rfl))))) (fun _ h9 => h9) rfl dX11_rests_1 ?_
  refine lv_iload_n hx hb dX11_rests_4 rfl (lv_at hl 1 rfl) ?_
  have hPc := hP.sub (ws' := [(h1, .inr (7, [.ref h2, .ref r13, .int 0, .int 0])), (h2, .inl (g0, 58, .inl (fun _ => 0)))]) [1, 2] rfl
  have hDc := hD.sub (ws' := [(h1, .inr (7, [.ref h2, .ref r13, .int 0, .int 0])), (h2, .inl (g0, 58, .inl (fun _ => 0)))]) [1, 2] (by decide) rfl
  have hKc := hK.sub (tys' := [(g0, .int)]) [0] rfl
  have hFc := va_free (wc := [(h1, .inr (7, [.ref h2, .ref r13, .int 0, .int 0])), (h2, .inl (g0, 58, .inl (fun _ => 0)))]) hD hS hA [1, 2] rfl
  refine va_calli (va_runV (As := [.int v0]) (rest := []) ⟨hx, hb, hml, hown, hts⟩ (k_X7_has l dC dI g0 h1 h2 r13 v0  s.heap.size) (cwV 1 hts g_X11_rests_0 rfl rfl rfl (by decide +kernel) ⟨Nat.le_of_ble_eq_true rfl, Nat.le_of_ble_eq_true rfl⟩) ⟨fun a U g mk q => by obtain ⟨q0, q1, qP, qK, qD⟩ := q; exact ⟨q0, q1, qP, va_K.moved (u := U) (U := U.calling g mk a) (Vm.Alike.refl U.vm) qK, qD⟩, va_recv hKc hPc (ci := 7) (q0 := 0) rfl rfl, fun U hU hW => ⟨rfl, by rw [hU], by rw [hU]; exact hPc, va_K.moved hW.alike hKc, hDc.weaken (fun _ _ _ _ => trivial)⟩⟩ rfl rfl hl.1 rfl (lv_room (Nat.le_of_ble_eq_true rfl)) dX11_rests_5 ⟨Nat.le_of_ble_eq_true rfl, Nat.le_of_ble_eq_true rfl⟩) hS (fun q _ h => hFc q h) hFc (fun ra1 u t H1 locs ht hvm hw hB hz1 hk1 hS => ?_)
  obtain ⟨hP1, hK1, hD1⟩ := hB
  rw [ht] at hP1
  obtain ⟨hP, hD⟩ := va_join (wr := [(h0, .inr (11, [.ref r0, .ref r1, .ref r2, .ref r3, .ref r4, .ref h1, .ref r5, .ref r6, .ref r7, .ref r8, .ref r9, .ref r10, .ref r11, .ref r12, .int 0, .int 5, .long 0]))]) (w1 := [(h1, .inr (7, [.ref h2, .ref r13, .int 0, .int 0])), (h2, .inl (g0, 58, .inl (fun _ => 0)))]) hP hD [1, 2] [0] rfl rfl (by decide) (by decide) hk1 hFc hP1 hD1
  generalize H1 = H at hP hS ⊢
  have hP : va_P (dC, dI) vwCl [(h0, .inr (11, [.ref r0, .ref r1, .ref r2, .ref r3, .ref r4, .ref h1, .ref r5, .ref r6, .ref r7, .ref r8, .ref r9, .ref r10, .ref r11, .ref r12, .int 0, .int 5, .long 0])), (h1, .inr (7, [.ref h2, .ref r13, .int 0, .int 0])), (h2, .inl (g0, 58, .inl (fun _ => 0)))] H := hP
  have hD : va_D A [(h0, .inr (11, [.ref r0, .ref r1, .ref r2, .ref r3, .ref r4, .ref h1, .ref r5, .ref r6, .ref r7, .ref r8, .ref r9, .ref r10, .ref r11, .ref r12, .int 0, .int 5, .long 0])), (h1, .inr (7, [.ref h2, .ref r13, .int 0, .int 0])), (h2, .inl (g0, 58, .inl (fun _ => 0)))] := hD
  obtain rfl : ra1 = (0 : Int32) := hw
  refine lv_if_eq (tgt := 16) hx hb dX11_rests_8 (by decide) (fun _ => ?_) (fun c => absurd (by decide) c)
  refine lv_iconst (v := (-1)) hx hb dX11_rests_16 (by decide) ?_
  refine lv_goto (tgt := 33) hx hb dX11_rests_17 (by decide) ?_
  have hP9 := hP.sub (ws' := [(h0, .inr (11, [.ref r0, .ref r1, .ref r2, .ref r3, .ref r4, .ref h1, .ref r5, .ref r6, .ref r7, .ref r8, .ref r9, .ref r10, .ref r11, .ref r12, .int 0, .int 5, .long 0])), (h1, .inr (7, [.ref h2, .ref r13, .int 0, .int 0])), (h2, .inl (g0, 58, .inl (fun _ => 0)))]) [0, 1, 2] rfl
  have hD9 := hD.sub (ws' := [(h0, .inr (11, [.ref r0, .ref r1, .ref r2, .ref r3, .ref r4, .ref h1, .ref r5, .ref r6, .ref r7, .ref r8, .ref r9, .ref r10, .ref r11, .ref r12, .int 0, .int 5, .long 0])), (h1, .inr (7, [.ref h2, .ref r13, .int 0, .int 0])), (h2, .inl (g0, 58, .inl (fun _ => 0)))]) [0, 1, 2] (by decide) rfl
  have hK9 := hK.sub (tys' := [(g0, .int)]) [0] rfl
  exact W.iret (v := (-1)) hx hb hr (fun t ht hW => ⟨⟨(-1), (), rfl, rfl, by rw [ht]; exact hP9, va_K.moved hW.alike hK9, hD9⟩, hS.F ht⟩) hS.2.2 dX11_rests_33
def q_X11_odds : List Cond := .code yX11_odds cX11_odds 5 (some .int) :: (([.fieldLink RX11 49 "LeftArguments" "room" "LLeftArguments$Room;", .code yX7_has cX7_has 2 (some .boolean), .fieldLink RX7 11 "LeftArguments$Room" "cells" "[I", .initialized RX7, .instanceMethod yX7_has, .selects RX7 yX7_has yX7_has, .methodLink RX11 169 yX7_has] : List Cond) ++ wsX110 ++ wsX70)
set_option maxRecDepth 20000 in
theorem g_X11_odds_0 : GoodIn q_X11_odds (wsV RX11 169 RX7 yX7_has q_X7_has) := goodIn_app (goodIn_r _ [7, 5, 6, 4] (by decide +kernel) (by decide +kernel)) (goodIn_ca (goodIn_r (.code yX7_has cX7_has 2 (some .boolean) :: [.fieldLink RX7 11 "LeftArguments$Room" "cells" "[I"]) [2, 3] (by decide +kernel) (by decide +kernel)) (goodIn_sub (fun _ h => List.mem_cons_of_mem _ (List.mem_append_right _ h)) gwX7))
set_option maxHeartbeats 4000000 in
set_option maxRecDepth 100000 in
theorem k_X11_odds (l : Launch) (dC : Nat → ClassId) (dI : Nat → Nat → Nat) (g0 : ClassId) (h0 h1 h2 : Nat) (r0 r1 r2 r3 r4 r5 r6 r7 r8 r9 r10 r11 r12 r13 : Nat) (v0 v1 v2 v3 : Int32) (sz : Nat) : Met l yX11_odds q_X11_odds ({ frames := 1, cells := 0, slots := 0, locals := 21 }) (va_Pc [.ref h0, .int v0, .int v1, .int v2, .int v3] (fun U => U.heap.size = sz ∧ va_P (dC, dI) vwCl [(h0, .inr (11, [.ref r0, .ref r1, .ref r2, .ref r3, .ref r4, .ref h1, .ref r5, .ref r6, .ref r7, .ref r8, .ref r9, .ref r10, .ref r11, .ref r12, .int 0, .int 5, .long 0])), (h1, .inr (7, [.ref h2, .ref r13, .int 0, .int 0])), (h2, .inl (g0, 58, .inl (fun _ => 0)))] U.heap ∧ va_K (dC, dI) vwCl [(g0, .int)] U ∧ va_D (fun _ => True) [(h0, .inr (11, [.ref r0, .ref r1, .ref r2, .ref r3, .ref r4, .ref h1, .ref r5, .ref r6, .ref r7, .ref r8, .ref r9, .ref r10, .ref r11, .ref r12, .int 0, .int 5, .long 0])), (h1, .inr (7, [.ref h2, .ref r13, .int 0, .int 0])), (h2, .inl (g0, 58, .inl (fun _ => 0)))])) (va_Qi (fun (r : Int32) (_ : Unit) => r = (-1)) (fun (_ : Unit) (t : State) => va_P (dC, dI) vwCl [(h0, .inr (11, [.ref r0, .ref r1, .ref r2, .ref r3, .ref r4, .ref h1, .ref r5, .ref r6, .ref r7, .ref r8, .ref r9, .ref r10, .ref r11, .ref r12, .int 0, .int 5, .long 0])), (h1, .inr (7, [.ref h2, .ref r13, .int 0, .int 0])), (h2, .inl (g0, 58, .inl (fun _ => 0)))] t.heap ∧ va_K (dC, dI) vwCl [(g0, .int)] t ∧ va_D (va_A [(h0, .inr (11, [.ref r0, .ref r1, .ref r2, .ref r3, .ref r4, .ref h1, .ref r5, .ref r6, .ref r7, .ref r8, .ref r9, .ref r10, .ref r11, .ref r12, .int 0, .int 5, .long 0])), (h1, .inr (7, [.ref h2, .ref r13, .int 0, .int 0])), (h2, .inl (g0, 58, .inl (fun _ => 0)))] sz) [(h0, .inr (11, [.ref r0, .ref r1, .ref r2, .ref r3, .ref r4, .ref h1, .ref r5, .ref r6, .ref r7, .ref r8, .ref r9, .ref r10, .ref r11, .ref r12, .int 0, .int 5, .long 0])), (h1, .inr (7, [.ref h2, .ref r13, .int 0, .int 0])), (h2, .inl (g0, 58, .inl (fun _ => 0)))]) (va_A [(h0, .inr (11, [.ref r0, .ref r1, .ref r2, .ref r3, .ref r4, .ref h1, .ref r5, .ref r6, .ref r7, .ref r8, .ref r9, .ref r10, .ref r11, .ref r12, .int 0, .int 5, .long 0])), (h1, .inr (7, [.ref h2, .ref r13, .int 0, .int 0])), (h2, .inl (g0, 58, .inl (fun _ => 0)))] sz)) 0 0 (va_A [(h0, .inr (11, [.ref r0, .ref r1, .ref r2, .ref r3, .ref r4, .ref h1, .ref r5, .ref r6, .ref r7, .ref r8, .ref r9, .ref r10, .ref r11, .ref r12, .int 0, .int 5, .long 0])), (h1, .inr (7, [.ref h2, .ref r13, .int 0, .int 0])), (h2, .inl (g0, 58, .inl (fun _ => 0)))] sz) := by
  refine Met.ofW (cc := cX11_odds) (maxL := 5) (ret := (some .int)) (by decide) rfl ?_
  intro p e s m args below meth c s₁ B hml hv
  obtain ⟨rfl, hsz, hP, hK, hD0⟩ := hv
  have hx := B.exec
  have hb := B.bytes
  have hr := B.returns
  have hts := atoms_spec (ws := q_X11_odds) B.pre
  have hown : s.vm.findClass RX11 = some m.cls := findClass_of_methodNamed B.named
  have hlocks := B.notSynchronized
  subst hsz
  have hD := hD0.self (sz := s.heap.size)
  generalize hAe : va_A [(h0, .inr (11, [.ref r0, .ref r1, .ref r2, .ref r3, .ref r4, .ref h1, .ref r5, .ref r6, .ref r7, .ref r8, .ref r9, .ref r10, .ref r11, .ref r12, .int 0, .int 5, .long 0])), (h1, .inr (7, [.ref h2, .ref r13, .int 0, .int 0])), (h2, .inl (g0, 58, .inl (fun _ => 0)))] s.heap.size = A at hD ⊢
  have hA : ∀ q : Nat, s.heap.size ≤ q → A q := fun q h => by rw [← hAe]; exact Or.inr h
  have hS : va_S A s.heap s.heap [] := va_S.rf
  have hl := lv_entry ([.ref h0, .int v0, .int v1, .int v2, .int v3]) (n := 5) (Nat.le_of_ble_eq_true rfl)
  rw [lg_entry_eq]
  generalize (lg_sl ([.ref h0, .int v0, .int v1, .int v2, .int v3]) ++ List.replicate (5 - (lg_sl ([.ref h0, .int v0, .int v1, .int v2, .int v3])).length) Slot.unset).toArray = ls at hl ⊢
  have hl : lv_has ls 5 [(0, .ref h0), (1, .int v0), (2, .int v1), (3, .int v2), (4, .int v3)] := hl
  refine lv_aload_n hx hb dX11_odds_0 rfl (lv_at hl 0 rfl) ?_
  refine va_get (D := (dC, dI)) (ci := 11) (v := .ref h1) (C := RX11) (T := TX11) (N := 17) hx hb hts (fun _ h => List.mem_cons_of_mem _ (List.mem_append_left _ (List.mem_append_right _ h))) hown hK hP 0 rfl rfl 5 (by decide) (hts (.fieldLink RX11 49 "LeftArguments" "room" "LLeftArguments$Room;") (List.mem_cons_of_mem _ (List.mem_append_left _ (List.mem_append_left _ (List.mem_of_getElem? (i := 0) rfl))))) (fun _ h9 => h9) rfl dX11_odds_1 ?_
  refine lv_iload_n hx hb dX11_odds_4 rfl (lv_at hl 1 rfl) ?_
  have hPc := hP.sub (ws' := [(h1, .inr (7, [.ref h2, .ref r13, .int 0, .int 0])), (h2, .inl (g0, 58, .inl (fun _ => 0)))]) [1, 2] rfl
  have hDc := hD.sub (ws' := [(h1, .inr (7, [.ref h2, .ref r13, .int 0, .int 0])), (h2, .inl (g0, 58, .inl (fun _ => 0)))]) [1, 2] (by decide) rfl
  have hKc := hK.sub (tys' := [(g0, .int)]) [0] rfl
  have hFc := va_free (wc := [(h1, .inr (7, [.ref h2, .ref r13, .int 0, .int 0])), (h2, .inl (g0, 58, .inl (fun _ => 0)))]) hD hS hA [1, 2] rfl
  refine va_calli (va_runV (As := [.int v0]) (rest := []) ⟨hx, hb, hml, hown, hts⟩ (k_X7_has l dC dI g0 h1 h2 r13 v0  s.heap.size) (cwV 1 hts g_X11_odds_0 rfl rfl rfl (by decide +kernel) ⟨Nat.le_of_ble_eq_true rfl, Nat.le_of_ble_eq_true rfl⟩) ⟨fun a U g mk q => by obtain ⟨q0, q1, qP, qK, qD⟩ := q; exact ⟨q0, q1, qP, va_K.moved (u := U) (U := U.calling g mk a) (Vm.Alike.refl U.vm) qK, qD⟩, va_recv hKc hPc (ci := 7) (q0 := 0) rfl rfl, fun U hU hW => ⟨rfl, by rw [hU], by rw [hU]; exact hPc, va_K.moved hW.alike hKc, hDc.weaken (fun _ _ _ _ => trivial)⟩⟩ rfl rfl hl.1 rfl (lv_room (Nat.le_of_ble_eq_true rfl)) dX11_odds_5 ⟨Nat.le_of_ble_eq_true rfl, Nat.le_of_ble_eq_true rfl⟩) hS (fun q _ h => hFc q h) hFc (fun ra1 u t H1 locs ht hvm hw hB hz1 hk1 hS => ?_)
  obtain ⟨hP1, hK1, hD1⟩ := hB
  rw [ht] at hP1
  obtain ⟨hP, hD⟩ := va_join (wr := [(h0, .inr (11, [.ref r0, .ref r1, .ref r2, .ref r3, .ref r4, .ref h1, .ref r5, .ref r6, .ref r7, .ref r8, .ref r9, .ref r10, .ref r11, .ref r12, .int 0, .int 5, .long 0]))]) (w1 := [(h1, .inr (7, [.ref h2, .ref r13, .int 0, .int 0])), (h2, .inl (g0, 58, .inl (fun _ => 0)))]) hP hD [1, 2] [0] rfl rfl (by decide) (by decide) hk1 hFc hP1 hD1
  generalize H1 = H at hP hS ⊢
  have hP : va_P (dC, dI) vwCl [(h0, .inr (11, [.ref r0, .ref r1, .ref r2, .ref r3, .ref r4, .ref h1, .ref r5, .ref r6, .ref r7, .ref r8, .ref r9, .ref r10, .ref r11, .ref r12, .int 0, .int 5, .long 0])), (h1, .inr (7, [.ref h2, .ref r13, .int 0, .int 0])), (h2, .inl (g0, 58, .inl (fun _ => 0)))] H := hP
  have hD : va_D A [(h0, .inr (11, [.ref r0, .ref r1, .ref r2, .ref r3, .ref r4, .ref h1, .ref r5, .ref r6, .ref r7, .ref r8, .ref r9, .ref r10, .ref r11, .ref r12, .int 0, .int 5, .long 0])), (h1, .inr (7, [.ref h2, .ref r13, .int 0, .int 0])), (h2, .inl (g0, 58, .inl (fun _ => 0)))] := hD
  obtain rfl : ra1 = (0 : Int32) := hw
  refine lv_if_eq (tgt := 42) hx hb dX11_odds_8 (by decide) (fun _ => ?_) (fun c => absurd (by decide) c)
  refine lv_iconst (v := (-1)) hx hb dX11_odds_42 (by decide) ?_
  have hP9 := hP.sub (ws' := [(h0, .inr (11, [.ref r0, .ref r1, .ref r2, .ref r3, .ref r4, .ref h1, .ref r5, .ref r6, .ref r7, .ref r8, .ref r9, .ref r10, .ref r11, .ref r12, .int 0, .int 5, .long 0])), (h1, .inr (7, [.ref h2, .ref r13, .int 0, .int 0])), (h2, .inl (g0, 58, .inl (fun _ => 0)))]) [0, 1, 2] rfl
  have hD9 := hD.sub (ws' := [(h0, .inr (11, [.ref r0, .ref r1, .ref r2, .ref r3, .ref r4, .ref h1, .ref r5, .ref r6, .ref r7, .ref r8, .ref r9, .ref r10, .ref r11, .ref r12, .int 0, .int 5, .long 0])), (h1, .inr (7, [.ref h2, .ref r13, .int 0, .int 0])), (h2, .inl (g0, 58, .inl (fun _ => 0)))]) [0, 1, 2] (by decide) rfl
  have hK9 := hK.sub (tys' := [(g0, .int)]) [0] rfl
  exact W.iret (v := (-1)) hx hb hr (fun t ht hW => ⟨⟨(-1), (), rfl, rfl, by rw [ht]; exact hP9, va_K.moved hW.alike hK9, hD9⟩, hS.F ht⟩) hS.2.2 dX11_odds_43
def q_X11_shares : List Cond := .code yX11_shares cX11_shares 4 (some .int) :: (([.fieldLink RX11 49 "LeftArguments" "room" "LLeftArguments$Room;", .code yX7_has cX7_has 2 (some .boolean), .fieldLink RX7 11 "LeftArguments$Room" "cells" "[I", .initialized RX7, .instanceMethod yX7_has, .selects RX7 yX7_has yX7_has, .methodLink RX11 169 yX7_has] : List Cond) ++ wsX110 ++ wsX70)
set_option maxRecDepth 20000 in
theorem g_X11_shares_0 : GoodIn q_X11_shares (wsV RX11 169 RX7 yX7_has q_X7_has) := goodIn_app (goodIn_r _ [7, 5, 6, 4] (by decide +kernel) (by decide +kernel)) (goodIn_ca (goodIn_r (.code yX7_has cX7_has 2 (some .boolean) :: [.fieldLink RX7 11 "LeftArguments$Room" "cells" "[I"]) [2, 3] (by decide +kernel) (by decide +kernel)) (goodIn_sub (fun _ h => List.mem_cons_of_mem _ (List.mem_append_right _ h)) gwX7))
set_option maxHeartbeats 4000000 in
set_option maxRecDepth 100000 in
theorem k_X11_shares (l : Launch) (dC : Nat → ClassId) (dI : Nat → Nat → Nat) (g0 : ClassId) (h0 h1 h2 : Nat) (r0 r1 r2 r3 r4 r5 r6 r7 r8 r9 r10 r11 r12 r13 : Nat) (v0 v1 : Int32) (sz : Nat) : Met l yX11_shares q_X11_shares ({ frames := 1, cells := 0, slots := 0, locals := 21 }) (va_Pc [.ref h0, .int v0, .int v1] (fun U => U.heap.size = sz ∧ va_P (dC, dI) vwCl [(h0, .inr (11, [.ref r0, .ref r1, .ref r2, .ref r3, .ref r4, .ref h1, .ref r5, .ref r6, .ref r7, .ref r8, .ref r9, .ref r10, .ref r11, .ref r12, .int 0, .int 5, .long 0])), (h1, .inr (7, [.ref h2, .ref r13, .int 0, .int 0])), (h2, .inl (g0, 58, .inl (fun _ => 0)))] U.heap ∧ va_K (dC, dI) vwCl [(g0, .int)] U ∧ va_D (fun _ => True) [(h0, .inr (11, [.ref r0, .ref r1, .ref r2, .ref r3, .ref r4, .ref h1, .ref r5, .ref r6, .ref r7, .ref r8, .ref r9, .ref r10, .ref r11, .ref r12, .int 0, .int 5, .long 0])), (h1, .inr (7, [.ref h2, .ref r13, .int 0, .int 0])), (h2, .inl (g0, 58, .inl (fun _ => 0)))])) (va_Qi (fun (r : Int32) (_ : Unit) => r = (-1)) (fun (_ : Unit) (t : State) => va_P (dC, dI) vwCl [(h0, .inr (11, [.ref r0, .ref r1, .ref r2, .ref r3, .ref r4, .ref h1, .ref r5, .ref r6, .ref r7, .ref r8, .ref r9, .ref r10, .ref r11, .ref r12, .int 0, .int 5, .long 0])), (h1, .inr (7, [.ref h2, .ref r13, .int 0, .int 0])), (h2, .inl (g0, 58, .inl (fun _ => 0)))] t.heap ∧ va_K (dC, dI) vwCl [(g0, .int)] t ∧ va_D (va_A [(h0, .inr (11, [.ref r0, .ref r1, .ref r2, .ref r3, .ref r4, .ref h1, .ref r5, .ref r6, .ref r7, .ref r8, .ref r9, .ref r10, .ref r11, .ref r12, .int 0, .int 5, .long 0])), (h1, .inr (7, [.ref h2, .ref r13, .int 0, .int 0])), (h2, .inl (g0, 58, .inl (fun _ => 0)))] sz) [(h0, .inr (11, [.ref r0, .ref r1, .ref r2, .ref r3, .ref r4, .ref h1, .ref r5, .ref r6, .ref r7, .ref r8, .ref r9, .ref r10, .ref r11, .ref r12, .int 0, .int 5, .long 0])), (h1, .inr (7, [.ref h2, .ref r13, .int 0, .int 0])), (h2, .inl (g0, 58, .inl (fun _ => 0)))]) (va_A [(h0, .inr (11, [.ref r0, .ref r1, .ref r2, .ref r3, .ref r4, .ref h1, .ref r5, .ref r6, .ref r7, .ref r8, .ref r9, .ref r10, .ref r11, .ref r12, .int 0, .int 5, .long 0])), (h1, .inr (7, [.ref h2, .ref r13, .int 0, .int 0])), (h2, .inl (g0, 58, .inl (fun _ => 0)))] sz)) 0 0 (va_A [(h0, .inr (11, [.ref r0, .ref r1, .ref r2, .ref r3, .ref r4, .ref h1, .ref r5, .ref r6, .ref r7, .ref r8, .ref r9, .ref r10, .ref r11, .ref r12, .int 0, .int 5, .long 0])), (h1, .inr (7, [.ref h2, .ref r13, .int 0, .int 0])), (h2, .inl (g0, 58, .inl (fun _ => 0)))] sz) := by
  refine Met.ofW (cc := cX11_shares) (maxL := 4) (ret := (some .int)) (by decide) rfl ?_
  intro p e s m args below meth c s₁ B hml hv
  obtain ⟨rfl, hsz, hP, hK, hD0⟩ := hv
  have hx := B.exec
  have hb := B.bytes
  have hr := B.returns
  have hts := atoms_spec (ws := q_X11_shares) B.pre
  have hown : s.vm.findClass RX11 = some m.cls := findClass_of_methodNamed B.named
  have hlocks := B.notSynchronized
  subst hsz
  have hD := hD0.self (sz := s.heap.size)
  generalize hAe : va_A [(h0, .inr (11, [.ref r0, .ref r1, .ref r2, .ref r3, .ref r4, .ref h1, .ref r5, .ref r6, .ref r7, .ref r8, .ref r9, .ref r10, .ref r11, .ref r12, .int 0, .int 5, .long 0])), (h1, .inr (7, [.ref h2, .ref r13, .int 0, .int 0])), (h2, .inl (g0, 58, .inl (fun _ => 0)))] s.heap.size = A at hD ⊢
  have hA : ∀ q : Nat, s.heap.size ≤ q → A q := fun q h => by rw [← hAe]; exact Or.inr h
  have hS : va_S A s.heap s.heap [] := va_S.rf
  have hl := lv_entry ([.ref h0, .int v0, .int v1]) (n := 4) (Nat.le_of_ble_eq_true rfl)
  rw [lg_entry_eq]
  generalize (lg_sl ([.ref h0, .int v0, .int v1]) ++ List.replicate (4 - (lg_sl ([.ref h0, .int v0, .int v1])).length) Slot.unset).toArray = ls at hl ⊢
  have hl : lv_has ls 4 [(0, .ref h0), (1, .int v0), (2, .int v1)] := hl
  refine lv_aload_n hx hb dX11_shares_0 rfl (lv_at hl 0 rfl) ?_
  refine va_get (D := (dC, dI)) (ci := 11) (v := .ref h1) (C := RX11) (T := TX11) (N := 17) hx hb hts (fun _ h => List.mem_cons_of_mem _ (List.mem_append_left _ (List.mem_append_right _ h))) hown hK hP 0 rfl rfl 5 (by decide) (hts (.fieldLink RX11 49 "LeftArguments" "room" "LLeftArguments$Room;") (List.mem_cons_of_mem _ (List.mem_append_left _ (List.mem_append_left _ (List.mem_of_getElem? (i := 0) rfl))))) (fun _ h9 => h9) rfl dX11_shares_1 ?_
  refine lv_iload_n hx hb dX11_shares_4 rfl (lv_at hl 1 rfl) ?_
  have hPc := hP.sub (ws' := [(h1, .inr (7, [.ref h2, .ref r13, .int 0, .int 0])), (h2, .inl (g0, 58, .inl (fun _ => 0)))]) [1, 2] rfl
  have hDc := hD.sub (ws' := [(h1, .inr (7, [.ref h2, .ref r13, .int 0, .int 0])), (h2, .inl (g0, 58, .inl (fun _ => 0)))]) [1, 2] (by decide) rfl
  have hKc := hK.sub (tys' := [(g0, .int)]) [0] rfl
  have hFc := va_free (wc := [(h1, .inr (7, [.ref h2, .ref r13, .int 0, .int 0])), (h2, .inl (g0, 58, .inl (fun _ => 0)))]) hD hS hA [1, 2] rfl
  refine va_calli (va_runV (As := [.int v0]) (rest := []) ⟨hx, hb, hml, hown, hts⟩ (k_X7_has l dC dI g0 h1 h2 r13 v0  s.heap.size) (cwV 1 hts g_X11_shares_0 rfl rfl rfl (by decide +kernel) ⟨Nat.le_of_ble_eq_true rfl, Nat.le_of_ble_eq_true rfl⟩) ⟨fun a U g mk q => by obtain ⟨q0, q1, qP, qK, qD⟩ := q; exact ⟨q0, q1, qP, va_K.moved (u := U) (U := U.calling g mk a) (Vm.Alike.refl U.vm) qK, qD⟩, va_recv hKc hPc (ci := 7) (q0 := 0) rfl rfl, fun U hU hW => ⟨rfl, by rw [hU], by rw [hU]; exact hPc, va_K.moved hW.alike hKc, hDc.weaken (fun _ _ _ _ => trivial)⟩⟩ rfl rfl hl.1 rfl (lv_room (Nat.le_of_ble_eq_true rfl)) dX11_shares_5 ⟨Nat.le_of_ble_eq_true rfl, Nat.le_of_ble_eq_true rfl⟩) hS (fun q _ h => hFc q h) hFc (fun ra1 u t H1 locs ht hvm hw hB hz1 hk1 hS => ?_)
  obtain ⟨hP1, hK1, hD1⟩ := hB
  rw [ht] at hP1
  obtain ⟨hP, hD⟩ := va_join (wr := [(h0, .inr (11, [.ref r0, .ref r1, .ref r2, .ref r3, .ref r4, .ref h1, .ref r5, .ref r6, .ref r7, .ref r8, .ref r9, .ref r10, .ref r11, .ref r12, .int 0, .int 5, .long 0]))]) (w1 := [(h1, .inr (7, [.ref h2, .ref r13, .int 0, .int 0])), (h2, .inl (g0, 58, .inl (fun _ => 0)))]) hP hD [1, 2] [0] rfl rfl (by decide) (by decide) hk1 hFc hP1 hD1
  generalize H1 = H at hP hS ⊢
  have hP : va_P (dC, dI) vwCl [(h0, .inr (11, [.ref r0, .ref r1, .ref r2, .ref r3, .ref r4, .ref h1, .ref r5, .ref r6, .ref r7, .ref r8, .ref r9, .ref r10, .ref r11, .ref r12, .int 0, .int 5, .long 0])), (h1, .inr (7, [.ref h2, .ref r13, .int 0, .int 0])), (h2, .inl (g0, 58, .inl (fun _ => 0)))] H := hP
  have hD : va_D A [(h0, .inr (11, [.ref r0, .ref r1, .ref r2, .ref r3, .ref r4, .ref h1, .ref r5, .ref r6, .ref r7, .ref r8, .ref r9, .ref r10, .ref r11, .ref r12, .int 0, .int 5, .long 0])), (h1, .inr (7, [.ref h2, .ref r13, .int 0, .int 0])), (h2, .inl (g0, 58, .inl (fun _ => 0)))] := hD
  obtain rfl : ra1 = (0 : Int32) := hw
  refine lv_if_eq (tgt := 22) hx hb dX11_shares_8 (by decide) (fun _ => ?_) (fun c => absurd (by decide) c)
  refine lv_iconst (v := (-1)) hx hb dX11_shares_22 (by decide) ?_
  have hP9 := hP.sub (ws' := [(h0, .inr (11, [.ref r0, .ref r1, .ref r2, .ref r3, .ref r4, .ref h1, .ref r5, .ref r6, .ref r7, .ref r8, .ref r9, .ref r10, .ref r11, .ref r12, .int 0, .int 5, .long 0])), (h1, .inr (7, [.ref h2, .ref r13, .int 0, .int 0])), (h2, .inl (g0, 58, .inl (fun _ => 0)))]) [0, 1, 2] rfl
  have hD9 := hD.sub (ws' := [(h0, .inr (11, [.ref r0, .ref r1, .ref r2, .ref r3, .ref r4, .ref h1, .ref r5, .ref r6, .ref r7, .ref r8, .ref r9, .ref r10, .ref r11, .ref r12, .int 0, .int 5, .long 0])), (h1, .inr (7, [.ref h2, .ref r13, .int 0, .int 0])), (h2, .inl (g0, 58, .inl (fun _ => 0)))]) [0, 1, 2] (by decide) rfl
  have hK9 := hK.sub (tys' := [(g0, .int)]) [0] rfl
  exact W.iret (v := (-1)) hx hb hr (fun t ht hW => ⟨⟨(-1), (), rfl, rfl, by rw [ht]; exact hP9, va_K.moved hW.alike hK9, hD9⟩, hS.F ht⟩) hS.2.2 dX11_shares_23
def q_X11_most : List Cond := .code yX11_most cX11_most 2 (some .int) :: (([.fieldLink RX11 42 "LeftArguments" "office" "LLeftArguments$Office;", .code yX5_stands cX5_stands 1 (some .boolean), .fieldLink RX5 24 "LeftArguments$Office" "stands" "Z", .initialized RX5, .instanceMethod yX5_stands, .selects RX5 yX5_stands yX5_stands, .methodLink RX11 159 yX5_stands] : List Cond) ++ wsX110 ++ wsX50)
set_option maxRecDepth 20000 in
theorem g_X11_most_0 : GoodIn q_X11_most (wsV RX11 159 RX5 yX5_stands q_X5_stands) := goodIn_app (goodIn_r _ [7, 5, 6, 4] (by decide +kernel) (by decide +kernel)) (goodIn_ca (goodIn_r (.code yX5_stands cX5_stands 1 (some .boolean) :: [.fieldLink RX5 24 "LeftArguments$Office" "stands" "Z"]) [2, 3] (by decide +kernel) (by decide +kernel)) (goodIn_sub (fun _ h => List.mem_cons_of_mem _ (List.mem_append_right _ h)) gwX5))
set_option maxHeartbeats 4000000 in
set_option maxRecDepth 100000 in
theorem k_X11_most (l : Launch) (dC : Nat → ClassId) (dI : Nat → Nat → Nat) (h0 h1 : Nat) (r0 r1 r2 r3 r4 r5 r6 r7 r8 r9 r10 r11 r12 r13 r14 : Nat) (v0 : Int32) (sz : Nat) : Met l yX11_most q_X11_most ({ frames := 1, cells := 0, slots := 0, locals := 20 }) (va_Pc [.ref h0, .int v0] (fun U => U.heap.size = sz ∧ va_P (dC, dI) vwCl [(h0, .inr (11, [.ref r0, .ref r1, .ref r2, .ref r3, .ref h1, .ref r4, .ref r5, .ref r6, .ref r7, .ref r8, .ref r9, .ref r10, .ref r11, .ref r12, .int 0, .int 5, .long 0])), (h1, .inr (5, [.ref r13, .ref r14, .int 0, .int 0]))] U.heap ∧ va_K (dC, dI) vwCl [] U ∧ va_D (fun _ => True) [(h0, .inr (11, [.ref r0, .ref r1, .ref r2, .ref r3, .ref h1, .ref r4, .ref r5, .ref r6, .ref r7, .ref r8, .ref r9, .ref r10, .ref r11, .ref r12, .int 0, .int 5, .long 0])), (h1, .inr (5, [.ref r13, .ref r14, .int 0, .int 0]))])) (va_Qi (fun (r : Int32) (_ : Unit) => r = (-1)) (fun (_ : Unit) (t : State) => va_P (dC, dI) vwCl [(h0, .inr (11, [.ref r0, .ref r1, .ref r2, .ref r3, .ref h1, .ref r4, .ref r5, .ref r6, .ref r7, .ref r8, .ref r9, .ref r10, .ref r11, .ref r12, .int 0, .int 5, .long 0])), (h1, .inr (5, [.ref r13, .ref r14, .int 0, .int 0]))] t.heap ∧ va_K (dC, dI) vwCl [] t ∧ va_D (va_A [(h0, .inr (11, [.ref r0, .ref r1, .ref r2, .ref r3, .ref h1, .ref r4, .ref r5, .ref r6, .ref r7, .ref r8, .ref r9, .ref r10, .ref r11, .ref r12, .int 0, .int 5, .long 0])), (h1, .inr (5, [.ref r13, .ref r14, .int 0, .int 0]))] sz) [(h0, .inr (11, [.ref r0, .ref r1, .ref r2, .ref r3, .ref h1, .ref r4, .ref r5, .ref r6, .ref r7, .ref r8, .ref r9, .ref r10, .ref r11, .ref r12, .int 0, .int 5, .long 0])), (h1, .inr (5, [.ref r13, .ref r14, .int 0, .int 0]))]) (va_A [(h0, .inr (11, [.ref r0, .ref r1, .ref r2, .ref r3, .ref h1, .ref r4, .ref r5, .ref r6, .ref r7, .ref r8, .ref r9, .ref r10, .ref r11, .ref r12, .int 0, .int 5, .long 0])), (h1, .inr (5, [.ref r13, .ref r14, .int 0, .int 0]))] sz)) 0 0 (va_A [(h0, .inr (11, [.ref r0, .ref r1, .ref r2, .ref r3, .ref h1, .ref r4, .ref r5, .ref r6, .ref r7, .ref r8, .ref r9, .ref r10, .ref r11, .ref r12, .int 0, .int 5, .long 0])), (h1, .inr (5, [.ref r13, .ref r14, .int 0, .int 0]))] sz) := by
  refine Met.ofW (cc := cX11_most) (maxL := 2) (ret := (some .int)) (by decide) rfl ?_
  intro p e s m args below meth c s₁ B hml hv
  obtain ⟨rfl, hsz, hP, hK, hD0⟩ := hv
  have hx := B.exec
  have hb := B.bytes
  have hr := B.returns
  have hts := atoms_spec (ws := q_X11_most) B.pre
  have hown : s.vm.findClass RX11 = some m.cls := findClass_of_methodNamed B.named
  have hlocks := B.notSynchronized
  subst hsz
  have hD := hD0.self (sz := s.heap.size)
  generalize hAe : va_A [(h0, .inr (11, [.ref r0, .ref r1, .ref r2, .ref r3, .ref h1, .ref r4, .ref r5, .ref r6, .ref r7, .ref r8, .ref r9, .ref r10, .ref r11, .ref r12, .int 0, .int 5, .long 0])), (h1, .inr (5, [.ref r13, .ref r14, .int 0, .int 0]))] s.heap.size = A at hD ⊢
  have hA : ∀ q : Nat, s.heap.size ≤ q → A q := fun q h => by rw [← hAe]; exact Or.inr h
  have hS : va_S A s.heap s.heap [] := va_S.rf
  have hl := lv_entry ([.ref h0, .int v0]) (n := 2) (Nat.le_of_ble_eq_true rfl)
  rw [lg_entry_eq]
  generalize (lg_sl ([.ref h0, .int v0]) ++ List.replicate (2 - (lg_sl ([.ref h0, .int v0])).length) Slot.unset).toArray = ls at hl ⊢
  have hl : lv_has ls 2 [(0, .ref h0), (1, .int v0)] := hl
  refine lv_aload_n hx hb dX11_most_0 rfl (lv_at hl 0 rfl) ?_
  refine va_get (D := (dC, dI)) (ci := 11) (v := .ref h1) (C := RX11) (T := TX11) (N := 17) hx hb hts (fun _ h => List.mem_cons_of_mem _ (List.mem_append_left _ (List.mem_append_right _ h))) hown hK hP 0 rfl rfl 4 (by decide) (hts (.fieldLink RX11 42 "LeftArguments" "office" "LLeftArguments$Office;") (List.mem_cons_of_mem _ (List.mem_append_left _ (List.mem_append_left _ (List.mem_of_getElem? (i := 0) rfl))))) (fun _ h9 => h9) rfl dX11_most_1 ?_
  have hPc := hP.sub (ws' := [(h1, .inr (5, [.ref r13, .ref r14, .int 0, .int 0]))]) [1] rfl
  have hDc := hD.sub (ws' := [(h1, .inr (5, [.ref r13, .ref r14, .int 0, .int 0]))]) [1] (by decide) rfl
  have hKc := hK.sub (tys' := []) [] rfl
  have hFc := va_free (wc := [(h1, .inr (5, [.ref r13, .ref r14, .int 0, .int 0]))]) hD hS hA [1] rfl
  refine va_calli (va_runV (As := []) (rest := []) ⟨hx, hb, hml, hown, hts⟩ (k_X5_stands l dC dI h1 r13 r14  s.heap.size) (cwV 0 hts g_X11_most_0 rfl rfl rfl (by decide +kernel) ⟨Nat.le_of_ble_eq_true rfl, Nat.le_of_ble_eq_true rfl⟩) ⟨fun a U g mk q => by obtain ⟨q0, q1, qP, qK, qD⟩ := q; exact ⟨q0, q1, qP, va_K.moved (u := U) (U := U.calling g mk a) (Vm.Alike.refl U.vm) qK, qD⟩, va_recv hKc hPc (ci := 5) (q0 := 0) rfl rfl, fun U hU hW => ⟨rfl, by rw [hU], by rw [hU]; exact hPc, va_K.moved hW.alike hKc, hDc.weaken (fun _ _ _ _ => trivial)⟩⟩ rfl rfl hl.1 rfl (lv_room (Nat.le_of_ble_eq_true rfl)) dX11_most_4 ⟨Nat.le_of_ble_eq_true rfl, Nat.le_of_ble_eq_true rfl⟩) hS (fun q _ h => hFc q h) hFc (fun ra1 u t H1 locs ht hvm hw hB hz1 hk1 hS => ?_)
  obtain ⟨hP1, hK1, hD1⟩ := hB
  rw [ht] at hP1
  obtain ⟨hP, hD⟩ := va_join (wr := [(h0, .inr (11, [.ref r0, .ref r1, .ref r2, .ref r3, .ref h1, .ref r4, .ref r5, .ref r6, .ref r7, .ref r8, .ref r9, .ref r10, .ref r11, .ref r12, .int 0, .int 5, .long 0]))]) (w1 := [(h1, .inr (5, [.ref r13, .ref r14, .int 0, .int 0]))]) hP hD [1] [0] rfl rfl (by decide) (by decide) hk1 hFc hP1 hD1
  generalize H1 = H at hP hS ⊢
  have hP : va_P (dC, dI) vwCl [(h0, .inr (11, [.ref r0, .ref r1, .ref r2, .ref r3, .ref h1, .ref r4, .ref r5, .ref r6, .ref r7, .ref r8, .ref r9, .ref r10, .ref r11, .ref r12, .int 0, .int 5, .long 0])), (h1, .inr (5, [.ref r13, .ref r14, .int 0, .int 0]))] H := hP
  have hD : va_D A [(h0, .inr (11, [.ref r0, .ref r1, .ref r2, .ref r3, .ref h1, .ref r4, .ref r5, .ref r6, .ref r7, .ref r8, .ref r9, .ref r10, .ref r11, .ref r12, .int 0, .int 5, .long 0])), (h1, .inr (5, [.ref r13, .ref r14, .int 0, .int 0]))] := hD
  obtain rfl : ra1 = (0 : Int32) := hw
  refine lv_if_ne (tgt := 12) hx hb dX11_most_7 (by decide) (fun c => absurd (by decide) c) (fun _ => ?_)
  refine lv_iconst (v := (-1)) hx hb dX11_most_10 (by decide) ?_
  have hP9 := hP.sub (ws' := [(h0, .inr (11, [.ref r0, .ref r1, .ref r2, .ref r3, .ref h1, .ref r4, .ref r5, .ref r6, .ref r7, .ref r8, .ref r9, .ref r10, .ref r11, .ref r12, .int 0, .int 5, .long 0])), (h1, .inr (5, [.ref r13, .ref r14, .int 0, .int 0]))]) [0, 1] rfl
  have hD9 := hD.sub (ws' := [(h0, .inr (11, [.ref r0, .ref r1, .ref r2, .ref r3, .ref h1, .ref r4, .ref r5, .ref r6, .ref r7, .ref r8, .ref r9, .ref r10, .ref r11, .ref r12, .int 0, .int 5, .long 0])), (h1, .inr (5, [.ref r13, .ref r14, .int 0, .int 0]))]) [0, 1] (by decide) rfl
  have hK9 := hK.sub (tys' := []) [] rfl
  exact W.iret (v := (-1)) hx hb hr (fun t ht hW => ⟨⟨(-1), (), rfl, rfl, by rw [ht]; exact hP9, va_K.moved hW.alike hK9, hD9⟩, hS.F ht⟩) hS.2.2 dX11_most_11
def q_X11_image : List Cond := .code yX11_image cX11_image 1 (some .int) :: (([.fieldLink RX11 42 "LeftArguments" "office" "LLeftArguments$Office;", .code yX5_stands cX5_stands 1 (some .boolean), .fieldLink RX5 24 "LeftArguments$Office" "stands" "Z", .initialized RX5, .instanceMethod yX5_stands, .selects RX5 yX5_stands yX5_stands, .methodLink RX11 159 yX5_stands] : List Cond) ++ wsX110 ++ wsX50)
set_option maxRecDepth 20000 in
theorem g_X11_image_0 : GoodIn q_X11_image (wsV RX11 159 RX5 yX5_stands q_X5_stands) := goodIn_app (goodIn_r _ [7, 5, 6, 4] (by decide +kernel) (by decide +kernel)) (goodIn_ca (goodIn_r (.code yX5_stands cX5_stands 1 (some .boolean) :: [.fieldLink RX5 24 "LeftArguments$Office" "stands" "Z"]) [2, 3] (by decide +kernel) (by decide +kernel)) (goodIn_sub (fun _ h => List.mem_cons_of_mem _ (List.mem_append_right _ h)) gwX5))
set_option maxHeartbeats 4000000 in
set_option maxRecDepth 100000 in
theorem k_X11_image (l : Launch) (dC : Nat → ClassId) (dI : Nat → Nat → Nat) (h0 h1 : Nat) (r0 r1 r2 r3 r4 r5 r6 r7 r8 r9 r10 r11 r12 r13 r14 : Nat) (sz : Nat) : Met l yX11_image q_X11_image ({ frames := 1, cells := 0, slots := 0, locals := 20 }) (va_Pc [.ref h0] (fun U => U.heap.size = sz ∧ va_P (dC, dI) vwCl [(h0, .inr (11, [.ref r0, .ref r1, .ref r2, .ref r3, .ref h1, .ref r4, .ref r5, .ref r6, .ref r7, .ref r8, .ref r9, .ref r10, .ref r11, .ref r12, .int 0, .int 5, .long 0])), (h1, .inr (5, [.ref r13, .ref r14, .int 0, .int 0]))] U.heap ∧ va_K (dC, dI) vwCl [] U ∧ va_D (fun _ => True) [(h0, .inr (11, [.ref r0, .ref r1, .ref r2, .ref r3, .ref h1, .ref r4, .ref r5, .ref r6, .ref r7, .ref r8, .ref r9, .ref r10, .ref r11, .ref r12, .int 0, .int 5, .long 0])), (h1, .inr (5, [.ref r13, .ref r14, .int 0, .int 0]))])) (va_Qi (fun (r : Int32) (_ : Unit) => r = (-1)) (fun (_ : Unit) (t : State) => va_P (dC, dI) vwCl [(h0, .inr (11, [.ref r0, .ref r1, .ref r2, .ref r3, .ref h1, .ref r4, .ref r5, .ref r6, .ref r7, .ref r8, .ref r9, .ref r10, .ref r11, .ref r12, .int 0, .int 5, .long 0])), (h1, .inr (5, [.ref r13, .ref r14, .int 0, .int 0]))] t.heap ∧ va_K (dC, dI) vwCl [] t ∧ va_D (va_A [(h0, .inr (11, [.ref r0, .ref r1, .ref r2, .ref r3, .ref h1, .ref r4, .ref r5, .ref r6, .ref r7, .ref r8, .ref r9, .ref r10, .ref r11, .ref r12, .int 0, .int 5, .long 0])), (h1, .inr (5, [.ref r13, .ref r14, .int 0, .int 0]))] sz) [(h0, .inr (11, [.ref r0, .ref r1, .ref r2, .ref r3, .ref h1, .ref r4, .ref r5, .ref r6, .ref r7, .ref r8, .ref r9, .ref r10, .ref r11, .ref r12, .int 0, .int 5, .long 0])), (h1, .inr (5, [.ref r13, .ref r14, .int 0, .int 0]))]) (va_A [(h0, .inr (11, [.ref r0, .ref r1, .ref r2, .ref r3, .ref h1, .ref r4, .ref r5, .ref r6, .ref r7, .ref r8, .ref r9, .ref r10, .ref r11, .ref r12, .int 0, .int 5, .long 0])), (h1, .inr (5, [.ref r13, .ref r14, .int 0, .int 0]))] sz)) 0 0 (va_A [(h0, .inr (11, [.ref r0, .ref r1, .ref r2, .ref r3, .ref h1, .ref r4, .ref r5, .ref r6, .ref r7, .ref r8, .ref r9, .ref r10, .ref r11, .ref r12, .int 0, .int 5, .long 0])), (h1, .inr (5, [.ref r13, .ref r14, .int 0, .int 0]))] sz) := by
  refine Met.ofW (cc := cX11_image) (maxL := 1) (ret := (some .int)) (by decide) rfl ?_
  intro p e s m args below meth c s₁ B hml hv
  obtain ⟨rfl, hsz, hP, hK, hD0⟩ := hv
  have hx := B.exec
  have hb := B.bytes
  have hr := B.returns
  have hts := atoms_spec (ws := q_X11_image) B.pre
  have hown : s.vm.findClass RX11 = some m.cls := findClass_of_methodNamed B.named
  have hlocks := B.notSynchronized
  subst hsz
  have hD := hD0.self (sz := s.heap.size)
  generalize hAe : va_A [(h0, .inr (11, [.ref r0, .ref r1, .ref r2, .ref r3, .ref h1, .ref r4, .ref r5, .ref r6, .ref r7, .ref r8, .ref r9, .ref r10, .ref r11, .ref r12, .int 0, .int 5, .long 0])), (h1, .inr (5, [.ref r13, .ref r14, .int 0, .int 0]))] s.heap.size = A at hD ⊢
  have hA : ∀ q : Nat, s.heap.size ≤ q → A q := fun q h => by rw [← hAe]; exact Or.inr h
  have hS : va_S A s.heap s.heap [] := va_S.rf
  have hl := lv_entry ([.ref h0]) (n := 1) (Nat.le_of_ble_eq_true rfl)
  rw [lg_entry_eq]
  generalize (lg_sl ([.ref h0]) ++ List.replicate (1 - (lg_sl ([.ref h0])).length) Slot.unset).toArray = ls at hl ⊢
  have hl : lv_has ls 1 [(0, .ref h0)] := hl
  refine lv_aload_n hx hb dX11_image_0 rfl (lv_at hl 0 rfl) ?_
  refine va_get (D := (dC, dI)) (ci := 11) (v := .ref h1) (C := RX11) (T := TX11) (N := 17) hx hb hts (fun _ h => List.mem_cons_of_mem _ (List.mem_append_left _ (List.mem_append_right _ h))) hown hK hP 0 rfl rfl 4 (by decide) (hts (.fieldLink RX11 42 "LeftArguments" "office" "LLeftArguments$Office;") (List.mem_cons_of_mem _ (List.mem_append_left _ (List.mem_append_left _ (List.mem_of_getElem? (i := 0) rfl))))) (fun _ h9 => h9) rfl dX11_image_1 ?_
  have hPc := hP.sub (ws' := [(h1, .inr (5, [.ref r13, .ref r14, .int 0, .int 0]))]) [1] rfl
  have hDc := hD.sub (ws' := [(h1, .inr (5, [.ref r13, .ref r14, .int 0, .int 0]))]) [1] (by decide) rfl
  have hKc := hK.sub (tys' := []) [] rfl
  have hFc := va_free (wc := [(h1, .inr (5, [.ref r13, .ref r14, .int 0, .int 0]))]) hD hS hA [1] rfl
  refine va_calli (va_runV (As := []) (rest := []) ⟨hx, hb, hml, hown, hts⟩ (k_X5_stands l dC dI h1 r13 r14  s.heap.size) (cwV 0 hts g_X11_image_0 rfl rfl rfl (by decide +kernel) ⟨Nat.le_of_ble_eq_true rfl, Nat.le_of_ble_eq_true rfl⟩) ⟨fun a U g mk q => by obtain ⟨q0, q1, qP, qK, qD⟩ := q; exact ⟨q0, q1, qP, va_K.moved (u := U) (U := U.calling g mk a) (Vm.Alike.refl U.vm) qK, qD⟩, va_recv hKc hPc (ci := 5) (q0 := 0) rfl rfl, fun U hU hW => ⟨rfl, by rw [hU], by rw [hU]; exact hPc, va_K.moved hW.alike hKc, hDc.weaken (fun _ _ _ _ => trivial)⟩⟩ rfl rfl hl.1 rfl (lv_room (Nat.le_of_ble_eq_true rfl)) dX11_image_4 ⟨Nat.le_of_ble_eq_true rfl, Nat.le_of_ble_eq_true rfl⟩) hS (fun q _ h => hFc q h) hFc (fun ra1 u t H1 locs ht hvm hw hB hz1 hk1 hS => ?_)
  obtain ⟨hP1, hK1, hD1⟩ := hB
  rw [ht] at hP1
  obtain ⟨hP, hD⟩ := va_join (wr := [(h0, .inr (11, [.ref r0, .ref r1, .ref r2, .ref r3, .ref h1, .ref r4, .ref r5, .ref r6, .ref r7, .ref r8, .ref r9, .ref r10, .ref r11, .ref r12, .int 0, .int 5, .long 0]))]) (w1 := [(h1, .inr (5, [.ref r13, .ref r14, .int 0, .int 0]))]) hP hD [1] [0] rfl rfl (by decide) (by decide) hk1 hFc hP1 hD1
  generalize H1 = H at hP hS ⊢
  have hP : va_P (dC, dI) vwCl [(h0, .inr (11, [.ref r0, .ref r1, .ref r2, .ref r3, .ref h1, .ref r4, .ref r5, .ref r6, .ref r7, .ref r8, .ref r9, .ref r10, .ref r11, .ref r12, .int 0, .int 5, .long 0])), (h1, .inr (5, [.ref r13, .ref r14, .int 0, .int 0]))] H := hP
  have hD : va_D A [(h0, .inr (11, [.ref r0, .ref r1, .ref r2, .ref r3, .ref h1, .ref r4, .ref r5, .ref r6, .ref r7, .ref r8, .ref r9, .ref r10, .ref r11, .ref r12, .int 0, .int 5, .long 0])), (h1, .inr (5, [.ref r13, .ref r14, .int 0, .int 0]))] := hD
  obtain rfl : ra1 = (0 : Int32) := hw
  refine lv_if_ne (tgt := 12) hx hb dX11_image_7 (by decide) (fun c => absurd (by decide) c) (fun _ => ?_)
  refine lv_iconst (v := (-1)) hx hb dX11_image_10 (by decide) ?_
  have hP9 := hP.sub (ws' := [(h0, .inr (11, [.ref r0, .ref r1, .ref r2, .ref r3, .ref h1, .ref r4, .ref r5, .ref r6, .ref r7, .ref r8, .ref r9, .ref r10, .ref r11, .ref r12, .int 0, .int 5, .long 0])), (h1, .inr (5, [.ref r13, .ref r14, .int 0, .int 0]))]) [0, 1] rfl
  have hD9 := hD.sub (ws' := [(h0, .inr (11, [.ref r0, .ref r1, .ref r2, .ref r3, .ref h1, .ref r4, .ref r5, .ref r6, .ref r7, .ref r8, .ref r9, .ref r10, .ref r11, .ref r12, .int 0, .int 5, .long 0])), (h1, .inr (5, [.ref r13, .ref r14, .int 0, .int 0]))]) [0, 1] (by decide) rfl
  have hK9 := hK.sub (tys' := []) [] rfl
  exact W.iret (v := (-1)) hx hb hr (fun t ht hW => ⟨⟨(-1), (), rfl, rfl, by rw [ht]; exact hP9, va_K.moved hW.alike hK9, hD9⟩, hS.F ht⟩) hS.2.2 dX11_image_11
def q_X11_back : List Cond := .code yX11_back cX11_back 1 (some .int) :: (([.fieldLink RX11 100 "LeftArguments" "imageKept" "Z"] : List Cond) ++ wsX110)
set_option maxHeartbeats 4000000 in
set_option maxRecDepth 100000 in
theorem k_X11_back (l : Launch) (dC : Nat → ClassId) (dI : Nat → Nat → Nat) (h0 : Nat) (r0 r1 r2 r3 r4 r5 r6 r7 r8 r9 r10 r11 r12 r13 : Nat) (sz : Nat) : Met l yX11_back q_X11_back ({ frames := 0, cells := 0, slots := 0, locals := 0 }) (va_Pc [.ref h0] (fun U => U.heap.size = sz ∧ va_P (dC, dI) vwCl [(h0, .inr (11, [.ref r0, .ref r1, .ref r2, .ref r3, .ref r4, .ref r5, .ref r6, .ref r7, .ref r8, .ref r9, .ref r10, .ref r11, .ref r12, .ref r13, .int 0, .int 5, .long 0]))] U.heap ∧ va_K (dC, dI) vwCl [] U ∧ va_D (fun _ => True) [(h0, .inr (11, [.ref r0, .ref r1, .ref r2, .ref r3, .ref r4, .ref r5, .ref r6, .ref r7, .ref r8, .ref r9, .ref r10, .ref r11, .ref r12, .ref r13, .int 0, .int 5, .long 0]))])) (va_Qi (fun (r : Int32) (_ : Unit) => r = (-1)) (fun (_ : Unit) (t : State) => va_P (dC, dI) vwCl [(h0, .inr (11, [.ref r0, .ref r1, .ref r2, .ref r3, .ref r4, .ref r5, .ref r6, .ref r7, .ref r8, .ref r9, .ref r10, .ref r11, .ref r12, .ref r13, .int 0, .int 5, .long 0]))] t.heap ∧ va_K (dC, dI) vwCl [] t ∧ va_D (va_A [(h0, .inr (11, [.ref r0, .ref r1, .ref r2, .ref r3, .ref r4, .ref r5, .ref r6, .ref r7, .ref r8, .ref r9, .ref r10, .ref r11, .ref r12, .ref r13, .int 0, .int 5, .long 0]))] sz) [(h0, .inr (11, [.ref r0, .ref r1, .ref r2, .ref r3, .ref r4, .ref r5, .ref r6, .ref r7, .ref r8, .ref r9, .ref r10, .ref r11, .ref r12, .ref r13, .int 0, .int 5, .long 0]))]) (va_A [(h0, .inr (11, [.ref r0, .ref r1, .ref r2, .ref r3, .ref r4, .ref r5, .ref r6, .ref r7, .ref r8, .ref r9, .ref r10, .ref r11, .ref r12, .ref r13, .int 0, .int 5, .long 0]))] sz)) 0 0 (va_A [(h0, .inr (11, [.ref r0, .ref r1, .ref r2, .ref r3, .ref r4, .ref r5, .ref r6, .ref r7, .ref r8, .ref r9, .ref r10, .ref r11, .ref r12, .ref r13, .int 0, .int 5, .long 0]))] sz) := by
  refine Met.ofW (cc := cX11_back) (maxL := 1) (ret := (some .int)) (by decide) rfl ?_
  intro p e s m args below meth c s₁ B hml hv
  obtain ⟨rfl, hsz, hP, hK, hD0⟩ := hv
  have hx := B.exec
  have hb := B.bytes
  have hr := B.returns
  have hts := atoms_spec (ws := q_X11_back) B.pre
  have hown : s.vm.findClass RX11 = some m.cls := findClass_of_methodNamed B.named
  have hlocks := B.notSynchronized
  subst hsz
  have hD := hD0.self (sz := s.heap.size)
  generalize hAe : va_A [(h0, .inr (11, [.ref r0, .ref r1, .ref r2, .ref r3, .ref r4, .ref r5, .ref r6, .ref r7, .ref r8, .ref r9, .ref r10, .ref r11, .ref r12, .ref r13, .int 0, .int 5, .long 0]))] s.heap.size = A at hD ⊢
  have hA : ∀ q : Nat, s.heap.size ≤ q → A q := fun q h => by rw [← hAe]; exact Or.inr h
  have hS : va_S A s.heap s.heap [] := va_S.rf
  have hl := lv_entry ([.ref h0]) (n := 1) (Nat.le_of_ble_eq_true rfl)
  rw [lg_entry_eq]
  generalize (lg_sl ([.ref h0]) ++ List.replicate (1 - (lg_sl ([.ref h0])).length) Slot.unset).toArray = ls at hl ⊢
  have hl : lv_has ls 1 [(0, .ref h0)] := hl
  refine lv_aload_n hx hb dX11_back_0 rfl (lv_at hl 0 rfl) ?_
  refine va_get (D := (dC, dI)) (ci := 11) (v := .int 0) (C := RX11) (T := TX11) (N := 17) hx hb hts (fun _ h => List.mem_cons_of_mem _ (List.mem_append_right _ h)) hown hK hP 0 rfl rfl 14 (by decide) (hts (.fieldLink RX11 100 "LeftArguments" "imageKept" "Z") (List.mem_cons_of_mem _ (List.mem_append_left _ (List.mem_of_getElem? (i := 0) rfl)))) (fun _ h9 => h9) rfl dX11_back_1 ?_
  refine lv_if_ne (tgt := 9) hx hb dX11_back_4 (by decide) (fun c => absurd (by decide) c) (fun _ => ?_)
  refine lv_iconst (v := (-1)) hx hb dX11_back_7 (by decide) ?_
  have hP9 := hP.sub (ws' := [(h0, .inr (11, [.ref r0, .ref r1, .ref r2, .ref r3, .ref r4, .ref r5, .ref r6, .ref r7, .ref r8, .ref r9, .ref r10, .ref r11, .ref r12, .ref r13, .int 0, .int 5, .long 0]))]) [0] rfl
  have hD9 := hD.sub (ws' := [(h0, .inr (11, [.ref r0, .ref r1, .ref r2, .ref r3, .ref r4, .ref r5, .ref r6, .ref r7, .ref r8, .ref r9, .ref r10, .ref r11, .ref r12, .ref r13, .int 0, .int 5, .long 0]))]) [0] (by decide) rfl
  have hK9 := hK.sub (tys' := []) [] rfl
  exact W.iret (v := (-1)) hx hb hr (fun t ht hW => ⟨⟨(-1), (), rfl, rfl, by rw [ht]; exact hP9, va_K.moved hW.alike hK9, hD9⟩, hS.F ht⟩) hS.2.2 dX11_back_8
def q_X5_toldCount : List Cond := .code yX5_toldCount cX5_toldCount 1 (some .int) :: (([.fieldLink RX5 20 "LeftArguments$Office" "toldCount" "I"] : List Cond) ++ wsX50)
set_option maxHeartbeats 4000000 in
set_option maxRecDepth 100000 in
theorem k_X5_toldCount (l : Launch) (dC : Nat → ClassId) (dI : Nat → Nat → Nat) (h0 : Nat) (r0 r1 : Nat) (sz : Nat) : Met l yX5_toldCount q_X5_toldCount ({ frames := 0, cells := 0, slots := 0, locals := 0 }) (va_Pc [.ref h0] (fun U => U.heap.size = sz ∧ va_P (dC, dI) vwCl [(h0, .inr (5, [.ref r0, .ref r1, .int 0, .int 0]))] U.heap ∧ va_K (dC, dI) vwCl [] U ∧ va_D (fun _ => True) [(h0, .inr (5, [.ref r0, .ref r1, .int 0, .int 0]))])) (va_Qi (fun (r : Int32) (_ : Unit) => r = 0) (fun (_ : Unit) (t : State) => va_P (dC, dI) vwCl [(h0, .inr (5, [.ref r0, .ref r1, .int 0, .int 0]))] t.heap ∧ va_K (dC, dI) vwCl [] t ∧ va_D (va_A [(h0, .inr (5, [.ref r0, .ref r1, .int 0, .int 0]))] sz) [(h0, .inr (5, [.ref r0, .ref r1, .int 0, .int 0]))]) (va_A [(h0, .inr (5, [.ref r0, .ref r1, .int 0, .int 0]))] sz)) 0 0 (va_A [(h0, .inr (5, [.ref r0, .ref r1, .int 0, .int 0]))] sz) := by
  refine Met.ofW (cc := cX5_toldCount) (maxL := 1) (ret := (some .int)) (by decide) rfl ?_
  intro p e s m args below meth c s₁ B hml hv
  obtain ⟨rfl, hsz, hP, hK, hD0⟩ := hv
  have hx := B.exec
  have hb := B.bytes
  have hr := B.returns
  have hts := atoms_spec (ws := q_X5_toldCount) B.pre
  have hown : s.vm.findClass RX5 = some m.cls := findClass_of_methodNamed B.named
  have hlocks := B.notSynchronized
  subst hsz
  have hD := hD0.self (sz := s.heap.size)
  generalize hAe : va_A [(h0, .inr (5, [.ref r0, .ref r1, .int 0, .int 0]))] s.heap.size = A at hD ⊢
  have hA : ∀ q : Nat, s.heap.size ≤ q → A q := fun q h => by rw [← hAe]; exact Or.inr h
  have hS : va_S A s.heap s.heap [] := va_S.rf
  have hl := lv_entry ([.ref h0]) (n := 1) (Nat.le_of_ble_eq_true rfl)
  rw [lg_entry_eq]
  generalize (lg_sl ([.ref h0]) ++ List.replicate (1 - (lg_sl ([.ref h0])).length) Slot.unset).toArray = ls at hl ⊢
  have hl : lv_has ls 1 [(0, .ref h0)] := hl
  refine lv_aload_n hx hb dX5_toldCount_0 rfl (lv_at hl 0 rfl) ?_
  refine va_get (D := (dC, dI)) (ci := 5) (v := .int 0) (C := RX5) (T := TX5) (N := 4) hx hb hts (fun _ h => List.mem_cons_of_mem _ (List.mem_append_right _ h)) hown hK hP 0 rfl rfl 2 (by decide) (hts (.fieldLink RX5 20 "LeftArguments$Office" "toldCount" "I") (List.mem_cons_of_mem _ (List.mem_append_left _ (List.mem_of_getElem? (i := 0) rfl)))) (fun _ h9 => h9) rfl dX5_toldCount_1 ?_
  have hP9 := hP.sub (ws' := [(h0, .inr (5, [.ref r0, .ref r1, .int 0, .int 0]))]) [0] rfl
  have hD9 := hD.sub (ws' := [(h0, .inr (5, [.ref r0, .ref r1, .int 0, .int 0]))]) [0] (by decide) rfl
  have hK9 := hK.sub (tys' := []) [] rfl
  exact W.iret (v := 0) hx hb hr (fun t ht hW => ⟨⟨0, (), rfl, rfl, by rw [ht]; exact hP9, va_K.moved hW.alike hK9, hD9⟩, hS.F ht⟩) hS.2.2 dX5_toldCount_4
def q_X7_has_1 : List Cond := .code yX7_has cX7_has 2 (some .boolean) :: (([.fieldLink RX7 11 "LeftArguments$Room" "cells" "[I"] : List Cond) ++ wsX70)
set_option maxHeartbeats 4000000 in
set_option maxRecDepth 100000 in
theorem k_X7_has_1 (l : Launch) (dC : Nat → ClassId) (dI : Nat → Nat → Nat) (g0 : ClassId) (h0 h1 : Nat) (r0 : Nat) (sz : Nat) : Met l yX7_has q_X7_has_1 ({ frames := 0, cells := 0, slots := 0, locals := 0 }) (va_Pc [.ref h0, .int 0] (fun U => U.heap.size = sz ∧ va_P (dC, dI) vwCl [(h0, .inr (7, [.ref h1, .ref r0, .int 0, .int 0])), (h1, .inl (g0, 58, .inl (fun _ => 0)))] U.heap ∧ va_K (dC, dI) vwCl [(g0, .int)] U ∧ va_D (fun _ => True) [(h0, .inr (7, [.ref h1, .ref r0, .int 0, .int 0])), (h1, .inl (g0, 58, .inl (fun _ => 0)))])) (va_Qi (fun (r : Int32) (_ : Unit) => r = 0) (fun (_ : Unit) (t : State) => va_P (dC, dI) vwCl [(h0, .inr (7, [.ref h1, .ref r0, .int 0, .int 0])), (h1, .inl (g0, 58, .inl (fun _ => 0)))] t.heap ∧ va_K (dC, dI) vwCl [(g0, .int)] t ∧ va_D (va_A [(h0, .inr (7, [.ref h1, .ref r0, .int 0, .int 0])), (h1, .inl (g0, 58, .inl (fun _ => 0)))] sz) [(h0, .inr (7, [.ref h1, .ref r0, .int 0, .int 0])), (h1, .inl (g0, 58, .inl (fun _ => 0)))]) (va_A [(h0, .inr (7, [.ref h1, .ref r0, .int 0, .int 0])), (h1, .inl (g0, 58, .inl (fun _ => 0)))] sz)) 0 0 (va_A [(h0, .inr (7, [.ref h1, .ref r0, .int 0, .int 0])), (h1, .inl (g0, 58, .inl (fun _ => 0)))] sz) := by
  refine Met.ofW (cc := cX7_has) (maxL := 2) (ret := (some .boolean)) (by decide) rfl ?_
  intro p e s m args below meth c s₁ B hml hv
  obtain ⟨rfl, hsz, hP, hK, hD0⟩ := hv
  have hx := B.exec
  have hb := B.bytes
  have hr := B.returns
  have hts := atoms_spec (ws := q_X7_has_1) B.pre
  have hown : s.vm.findClass RX7 = some m.cls := findClass_of_methodNamed B.named
  have hlocks := B.notSynchronized
  subst hsz
  have hD := hD0.self (sz := s.heap.size)
  generalize hAe : va_A [(h0, .inr (7, [.ref h1, .ref r0, .int 0, .int 0])), (h1, .inl (g0, 58, .inl (fun _ => 0)))] s.heap.size = A at hD ⊢
  have hA : ∀ q : Nat, s.heap.size ≤ q → A q := fun q h => by rw [← hAe]; exact Or.inr h
  have hS : va_S A s.heap s.heap [] := va_S.rf
  have hl := lv_entry ([.ref h0, .int 0]) (n := 2) (Nat.le_of_ble_eq_true rfl)
  rw [lg_entry_eq]
  generalize (lg_sl ([.ref h0, .int 0]) ++ List.replicate (2 - (lg_sl ([.ref h0, .int 0])).length) Slot.unset).toArray = ls at hl ⊢
  have hl : lv_has ls 2 [(0, .ref h0), (1, .int 0)] := hl
  refine lv_iload_n hx hb dX7_has_0 rfl (lv_at hl 1 rfl) ?_
  refine lv_if_lt (tgt := 23) hx hb dX7_has_1 (by decide) (fun c => absurd c (by decide)) (fun _ => ?_)
  refine lv_iload_n hx hb dX7_has_4 rfl (lv_at hl 1 rfl) ?_
  refine lv_bipush (v := 8) hx hb dX7_has_5 (by decide) ?_
  refine lv_icmp_ge (tgt := 23) hx hb dX7_has_7 (by decide) (fun c => absurd c (by decide)) (fun _ => ?_)
  refine lv_aload_n hx hb dX7_has_10 rfl (lv_at hl 0 rfl) ?_
  refine va_get (D := (dC, dI)) (ci := 7) (v := .ref h1) (C := RX7) (T := TX7) (N := 4) hx hb hts (fun _ h => List.mem_cons_of_mem _ (List.mem_append_right _ h)) hown hK hP 0 rfl rfl 0 (by decide) (hts (.fieldLink RX7 11 "LeftArguments$Room" "cells" "[I") (List.mem_cons_of_mem _ (List.mem_append_left _ (List.mem_of_getElem? (i := 0) rfl)))) (fun _ h9 => h9) rfl dX7_has_11 ?_
  refine lv_iload_n hx hb dX7_has_14 rfl (lv_at hl 1 rfl) ?_
  refine va_iald hx hb hK hP 1 0 rfl rfl (pv_c (x := 0) (n := 58) (by decide)) dX7_has_15 ?_
  refine lv_topi (fun tv1 etv1 => ?_)
  obtain rfl : tv1 = (0 : Int32) := etv1.trans (by first | rfl | decide)
  refine lv_if_le (tgt := 23) hx hb dX7_has_16 (by decide) (fun _ => ?_) (fun c => absurd (by decide) c)
  refine lv_iconst (v := 0) hx hb dX7_has_23 (by decide) ?_
  have hP9 := hP.sub (ws' := [(h0, .inr (7, [.ref h1, .ref r0, .int 0, .int 0])), (h1, .inl (g0, 58, .inl (fun _ => 0)))]) [0, 1] rfl
  have hD9 := hD.sub (ws' := [(h0, .inr (7, [.ref h1, .ref r0, .int 0, .int 0])), (h1, .inl (g0, 58, .inl (fun _ => 0)))]) [0, 1] (by decide) rfl
  have hK9 := hK.sub (tys' := [(g0, .int)]) [0] rfl
  exact W.zret (v := 0) hx hb hr rfl (fun t ht hW => ⟨⟨0, (), rfl, rfl, by rw [ht]; exact hP9, va_K.moved hW.alike hK9, hD9⟩, hS.F ht⟩) hS.2.2 dX7_has_24
def q_X7_has_2 : List Cond := .code yX7_has cX7_has 2 (some .boolean) :: (([.fieldLink RX7 11 "LeftArguments$Room" "cells" "[I"] : List Cond) ++ wsX70)
set_option maxHeartbeats 4000000 in
set_option maxRecDepth 100000 in
theorem k_X7_has_2 (l : Launch) (dC : Nat → ClassId) (dI : Nat → Nat → Nat) (g0 : ClassId) (h0 h1 : Nat) (r0 : Nat) (sz : Nat) : Met l yX7_has q_X7_has_2 ({ frames := 0, cells := 0, slots := 0, locals := 0 }) (va_Pc [.ref h0, .int 1] (fun U => U.heap.size = sz ∧ va_P (dC, dI) vwCl [(h0, .inr (7, [.ref h1, .ref r0, .int 0, .int 0])), (h1, .inl (g0, 58, .inl (fun _ => 0)))] U.heap ∧ va_K (dC, dI) vwCl [(g0, .int)] U ∧ va_D (fun _ => True) [(h0, .inr (7, [.ref h1, .ref r0, .int 0, .int 0])), (h1, .inl (g0, 58, .inl (fun _ => 0)))])) (va_Qi (fun (r : Int32) (_ : Unit) => r = 0) (fun (_ : Unit) (t : State) => va_P (dC, dI) vwCl [(h0, .inr (7, [.ref h1, .ref r0, .int 0, .int 0])), (h1, .inl (g0, 58, .inl (fun _ => 0)))] t.heap ∧ va_K (dC, dI) vwCl [(g0, .int)] t ∧ va_D (va_A [(h0, .inr (7, [.ref h1, .ref r0, .int 0, .int 0])), (h1, .inl (g0, 58, .inl (fun _ => 0)))] sz) [(h0, .inr (7, [.ref h1, .ref r0, .int 0, .int 0])), (h1, .inl (g0, 58, .inl (fun _ => 0)))]) (va_A [(h0, .inr (7, [.ref h1, .ref r0, .int 0, .int 0])), (h1, .inl (g0, 58, .inl (fun _ => 0)))] sz)) 0 0 (va_A [(h0, .inr (7, [.ref h1, .ref r0, .int 0, .int 0])), (h1, .inl (g0, 58, .inl (fun _ => 0)))] sz) := by
  refine Met.ofW (cc := cX7_has) (maxL := 2) (ret := (some .boolean)) (by decide) rfl ?_
  intro p e s m args below meth c s₁ B hml hv
  obtain ⟨rfl, hsz, hP, hK, hD0⟩ := hv
  have hx := B.exec
  have hb := B.bytes
  have hr := B.returns
  have hts := atoms_spec (ws := q_X7_has_2) B.pre
  have hown : s.vm.findClass RX7 = some m.cls := findClass_of_methodNamed B.named
  have hlocks := B.notSynchronized
  subst hsz
  have hD := hD0.self (sz := s.heap.size)
  generalize hAe : va_A [(h0, .inr (7, [.ref h1, .ref r0, .int 0, .int 0])), (h1, .inl (g0, 58, .inl (fun _ => 0)))] s.heap.size = A at hD ⊢
  have hA : ∀ q : Nat, s.heap.size ≤ q → A q := fun q h => by rw [← hAe]; exact Or.inr h
  have hS : va_S A s.heap s.heap [] := va_S.rf
  have hl := lv_entry ([.ref h0, .int 1]) (n := 2) (Nat.le_of_ble_eq_true rfl)
  rw [lg_entry_eq]
  generalize (lg_sl ([.ref h0, .int 1]) ++ List.replicate (2 - (lg_sl ([.ref h0, .int 1])).length) Slot.unset).toArray = ls at hl ⊢
  have hl : lv_has ls 2 [(0, .ref h0), (1, .int 1)] := hl
  refine lv_iload_n hx hb dX7_has_0 rfl (lv_at hl 1 rfl) ?_
  refine lv_if_lt (tgt := 23) hx hb dX7_has_1 (by decide) (fun c => absurd c (by decide)) (fun _ => ?_)
  refine lv_iload_n hx hb dX7_has_4 rfl (lv_at hl 1 rfl) ?_
  refine lv_bipush (v := 8) hx hb dX7_has_5 (by decide) ?_
  refine lv_icmp_ge (tgt := 23) hx hb dX7_has_7 (by decide) (fun c => absurd c (by decide)) (fun _ => ?_)
  refine lv_aload_n hx hb dX7_has_10 rfl (lv_at hl 0 rfl) ?_
  refine va_get (D := (dC, dI)) (ci := 7) (v := .ref h1) (C := RX7) (T := TX7) (N := 4) hx hb hts (fun _ h => List.mem_cons_of_mem _ (List.mem_append_right _ h)) hown hK hP 0 rfl rfl 0 (by decide) (hts (.fieldLink RX7 11 "LeftArguments$Room" "cells" "[I") (List.mem_cons_of_mem _ (List.mem_append_left _ (List.mem_of_getElem? (i := 0) rfl)))) (fun _ h9 => h9) rfl dX7_has_11 ?_
  refine lv_iload_n hx hb dX7_has_14 rfl (lv_at hl 1 rfl) ?_
  refine va_iald hx hb hK hP 1 0 rfl rfl (pv_c (x := 1) (n := 58) (by decide)) dX7_has_15 ?_
  refine lv_topi (fun tv1 etv1 => ?_)
  obtain rfl : tv1 = (0 : Int32) := etv1.trans (by first | rfl | decide)
  refine lv_if_le (tgt := 23) hx hb dX7_has_16 (by decide) (fun _ => ?_) (fun c => absurd (by decide) c)
  refine lv_iconst (v := 0) hx hb dX7_has_23 (by decide) ?_
  have hP9 := hP.sub (ws' := [(h0, .inr (7, [.ref h1, .ref r0, .int 0, .int 0])), (h1, .inl (g0, 58, .inl (fun _ => 0)))]) [0, 1] rfl
  have hD9 := hD.sub (ws' := [(h0, .inr (7, [.ref h1, .ref r0, .int 0, .int 0])), (h1, .inl (g0, 58, .inl (fun _ => 0)))]) [0, 1] (by decide) rfl
  have hK9 := hK.sub (tys' := [(g0, .int)]) [0] rfl
  exact W.zret (v := 0) hx hb hr rfl (fun t ht hW => ⟨⟨0, (), rfl, rfl, by rw [ht]; exact hP9, va_K.moved hW.alike hK9, hD9⟩, hS.F ht⟩) hS.2.2 dX7_has_24
def q_X7_has_3 : List Cond := .code yX7_has cX7_has 2 (some .boolean) :: (([.fieldLink RX7 11 "LeftArguments$Room" "cells" "[I"] : List Cond) ++ wsX70)
set_option maxHeartbeats 4000000 in
set_option maxRecDepth 100000 in
theorem k_X7_has_3 (l : Launch) (dC : Nat → ClassId) (dI : Nat → Nat → Nat) (g0 : ClassId) (h0 h1 : Nat) (r0 : Nat) (sz : Nat) : Met l yX7_has q_X7_has_3 ({ frames := 0, cells := 0, slots := 0, locals := 0 }) (va_Pc [.ref h0, .int 2] (fun U => U.heap.size = sz ∧ va_P (dC, dI) vwCl [(h0, .inr (7, [.ref h1, .ref r0, .int 0, .int 0])), (h1, .inl (g0, 58, .inl (fun _ => 0)))] U.heap ∧ va_K (dC, dI) vwCl [(g0, .int)] U ∧ va_D (fun _ => True) [(h0, .inr (7, [.ref h1, .ref r0, .int 0, .int 0])), (h1, .inl (g0, 58, .inl (fun _ => 0)))])) (va_Qi (fun (r : Int32) (_ : Unit) => r = 0) (fun (_ : Unit) (t : State) => va_P (dC, dI) vwCl [(h0, .inr (7, [.ref h1, .ref r0, .int 0, .int 0])), (h1, .inl (g0, 58, .inl (fun _ => 0)))] t.heap ∧ va_K (dC, dI) vwCl [(g0, .int)] t ∧ va_D (va_A [(h0, .inr (7, [.ref h1, .ref r0, .int 0, .int 0])), (h1, .inl (g0, 58, .inl (fun _ => 0)))] sz) [(h0, .inr (7, [.ref h1, .ref r0, .int 0, .int 0])), (h1, .inl (g0, 58, .inl (fun _ => 0)))]) (va_A [(h0, .inr (7, [.ref h1, .ref r0, .int 0, .int 0])), (h1, .inl (g0, 58, .inl (fun _ => 0)))] sz)) 0 0 (va_A [(h0, .inr (7, [.ref h1, .ref r0, .int 0, .int 0])), (h1, .inl (g0, 58, .inl (fun _ => 0)))] sz) := by
  refine Met.ofW (cc := cX7_has) (maxL := 2) (ret := (some .boolean)) (by decide) rfl ?_
  intro p e s m args below meth c s₁ B hml hv
  obtain ⟨rfl, hsz, hP, hK, hD0⟩ := hv
  have hx := B.exec
  have hb := B.bytes
  have hr := B.returns
  have hts := atoms_spec (ws := q_X7_has_3) B.pre
  have hown : s.vm.findClass RX7 = some m.cls := findClass_of_methodNamed B.named
  have hlocks := B.notSynchronized
  subst hsz
  have hD := hD0.self (sz := s.heap.size)
  generalize hAe : va_A [(h0, .inr (7, [.ref h1, .ref r0, .int 0, .int 0])), (h1, .inl (g0, 58, .inl (fun _ => 0)))] s.heap.size = A at hD ⊢
  have hA : ∀ q : Nat, s.heap.size ≤ q → A q := fun q h => by rw [← hAe]; exact Or.inr h
  have hS : va_S A s.heap s.heap [] := va_S.rf
  have hl := lv_entry ([.ref h0, .int 2]) (n := 2) (Nat.le_of_ble_eq_true rfl)
  rw [lg_entry_eq]
  generalize (lg_sl ([.ref h0, .int 2]) ++ List.replicate (2 - (lg_sl ([.ref h0, .int 2])).length) Slot.unset).toArray = ls at hl ⊢
  have hl : lv_has ls 2 [(0, .ref h0), (1, .int 2)] := hl
  refine lv_iload_n hx hb dX7_has_0 rfl (lv_at hl 1 rfl) ?_
  refine lv_if_lt (tgt := 23) hx hb dX7_has_1 (by decide) (fun c => absurd c (by decide)) (fun _ => ?_)
  refine lv_iload_n hx hb dX7_has_4 rfl (lv_at hl 1 rfl) ?_
  refine lv_bipush (v := 8) hx hb dX7_has_5 (by decide) ?_
  refine lv_icmp_ge (tgt := 23) hx hb dX7_has_7 (by decide) (fun c => absurd c (by decide)) (fun _ => ?_)
  refine lv_aload_n hx hb dX7_has_10 rfl (lv_at hl 0 rfl) ?_
  refine va_get (D := (dC, dI)) (ci := 7) (v := .ref h1) (C := RX7) (T := TX7) (N := 4) hx hb hts (fun _ h => List.mem_cons_of_mem _ (List.mem_append_right _ h)) hown hK hP 0 rfl rfl 0 (by decide) (hts (.fieldLink RX7 11 "LeftArguments$Room" "cells" "[I") (List.mem_cons_of_mem _ (List.mem_append_left _ (List.mem_of_getElem? (i := 0) rfl)))) (fun _ h9 => h9) rfl dX7_has_11 ?_
  refine lv_iload_n hx hb dX7_has_14 rfl (lv_at hl 1 rfl) ?_
  refine va_iald hx hb hK hP 1 0 rfl rfl (pv_c (x := 2) (n := 58) (by decide)) dX7_has_15 ?_
  refine lv_topi (fun tv1 etv1 => ?_)
  obtain rfl : tv1 = (0 : Int32) := etv1.trans (by first | rfl | decide)
  refine lv_if_le (tgt := 23) hx hb dX7_has_16 (by decide) (fun _ => ?_) (fun c => absurd (by decide) c)
  refine lv_iconst (v := 0) hx hb dX7_has_23 (by decide) ?_
  have hP9 := hP.sub (ws' := [(h0, .inr (7, [.ref h1, .ref r0, .int 0, .int 0])), (h1, .inl (g0, 58, .inl (fun _ => 0)))]) [0, 1] rfl
  have hD9 := hD.sub (ws' := [(h0, .inr (7, [.ref h1, .ref r0, .int 0, .int 0])), (h1, .inl (g0, 58, .inl (fun _ => 0)))]) [0, 1] (by decide) rfl
  have hK9 := hK.sub (tys' := [(g0, .int)]) [0] rfl
  exact W.zret (v := 0) hx hb hr rfl (fun t ht hW => ⟨⟨0, (), rfl, rfl, by rw [ht]; exact hP9, va_K.moved hW.alike hK9, hD9⟩, hS.F ht⟩) hS.2.2 dX7_has_24
def q_X7_has_4 : List Cond := .code yX7_has cX7_has 2 (some .boolean) :: (([.fieldLink RX7 11 "LeftArguments$Room" "cells" "[I"] : List Cond) ++ wsX70)
set_option maxHeartbeats 4000000 in
set_option maxRecDepth 100000 in
theorem k_X7_has_4 (l : Launch) (dC : Nat → ClassId) (dI : Nat → Nat → Nat) (g0 : ClassId) (h0 h1 : Nat) (r0 : Nat) (sz : Nat) : Met l yX7_has q_X7_has_4 ({ frames := 0, cells := 0, slots := 0, locals := 0 }) (va_Pc [.ref h0, .int 3] (fun U => U.heap.size = sz ∧ va_P (dC, dI) vwCl [(h0, .inr (7, [.ref h1, .ref r0, .int 0, .int 0])), (h1, .inl (g0, 58, .inl (fun _ => 0)))] U.heap ∧ va_K (dC, dI) vwCl [(g0, .int)] U ∧ va_D (fun _ => True) [(h0, .inr (7, [.ref h1, .ref r0, .int 0, .int 0])), (h1, .inl (g0, 58, .inl (fun _ => 0)))])) (va_Qi (fun (r : Int32) (_ : Unit) => r = 0) (fun (_ : Unit) (t : State) => va_P (dC, dI) vwCl [(h0, .inr (7, [.ref h1, .ref r0, .int 0, .int 0])), (h1, .inl (g0, 58, .inl (fun _ => 0)))] t.heap ∧ va_K (dC, dI) vwCl [(g0, .int)] t ∧ va_D (va_A [(h0, .inr (7, [.ref h1, .ref r0, .int 0, .int 0])), (h1, .inl (g0, 58, .inl (fun _ => 0)))] sz) [(h0, .inr (7, [.ref h1, .ref r0, .int 0, .int 0])), (h1, .inl (g0, 58, .inl (fun _ => 0)))]) (va_A [(h0, .inr (7, [.ref h1, .ref r0, .int 0, .int 0])), (h1, .inl (g0, 58, .inl (fun _ => 0)))] sz)) 0 0 (va_A [(h0, .inr (7, [.ref h1, .ref r0, .int 0, .int 0])), (h1, .inl (g0, 58, .inl (fun _ => 0)))] sz) := by
  refine Met.ofW (cc := cX7_has) (maxL := 2) (ret := (some .boolean)) (by decide) rfl ?_
  intro p e s m args below meth c s₁ B hml hv
  obtain ⟨rfl, hsz, hP, hK, hD0⟩ := hv
  have hx := B.exec
  have hb := B.bytes
  have hr := B.returns
  have hts := atoms_spec (ws := q_X7_has_4) B.pre
  have hown : s.vm.findClass RX7 = some m.cls := findClass_of_methodNamed B.named
  have hlocks := B.notSynchronized
  subst hsz
  have hD := hD0.self (sz := s.heap.size)
  generalize hAe : va_A [(h0, .inr (7, [.ref h1, .ref r0, .int 0, .int 0])), (h1, .inl (g0, 58, .inl (fun _ => 0)))] s.heap.size = A at hD ⊢
  have hA : ∀ q : Nat, s.heap.size ≤ q → A q := fun q h => by rw [← hAe]; exact Or.inr h
  have hS : va_S A s.heap s.heap [] := va_S.rf
  have hl := lv_entry ([.ref h0, .int 3]) (n := 2) (Nat.le_of_ble_eq_true rfl)
  rw [lg_entry_eq]
  generalize (lg_sl ([.ref h0, .int 3]) ++ List.replicate (2 - (lg_sl ([.ref h0, .int 3])).length) Slot.unset).toArray = ls at hl ⊢
  have hl : lv_has ls 2 [(0, .ref h0), (1, .int 3)] := hl
  refine lv_iload_n hx hb dX7_has_0 rfl (lv_at hl 1 rfl) ?_
  refine lv_if_lt (tgt := 23) hx hb dX7_has_1 (by decide) (fun c => absurd c (by decide)) (fun _ => ?_)
  refine lv_iload_n hx hb dX7_has_4 rfl (lv_at hl 1 rfl) ?_
  refine lv_bipush (v := 8) hx hb dX7_has_5 (by decide) ?_
  refine lv_icmp_ge (tgt := 23) hx hb dX7_has_7 (by decide) (fun c => absurd c (by decide)) (fun _ => ?_)
  refine lv_aload_n hx hb dX7_has_10 rfl (lv_at hl 0 rfl) ?_
  refine va_get (D := (dC, dI)) (ci := 7) (v := .ref h1) (C := RX7) (T := TX7) (N := 4) hx hb hts (fun _ h => List.mem_cons_of_mem _ (List.mem_append_right _ h)) hown hK hP 0 rfl rfl 0 (by decide) (hts (.fieldLink RX7 11 "LeftArguments$Room" "cells" "[I") (List.mem_cons_of_mem _ (List.mem_append_left _ (List.mem_of_getElem? (i := 0) rfl)))) (fun _ h9 => h9) rfl dX7_has_11 ?_
  refine lv_iload_n hx hb dX7_has_14 rfl (lv_at hl 1 rfl) ?_
  refine va_iald hx hb hK hP 1 0 rfl rfl (pv_c (x := 3) (n := 58) (by decide)) dX7_has_15 ?_
  refine lv_topi (fun tv1 etv1 => ?_)
  obtain rfl : tv1 = (0 : Int32) := etv1.trans (by first | rfl | decide)
  refine lv_if_le (tgt := 23) hx hb dX7_has_16 (by decide) (fun _ => ?_) (fun c => absurd (by decide) c)
  refine lv_iconst (v := 0) hx hb dX7_has_23 (by decide) ?_
  have hP9 := hP.sub (ws' := [(h0, .inr (7, [.ref h1, .ref r0, .int 0, .int 0])), (h1, .inl (g0, 58, .inl (fun _ => 0)))]) [0, 1] rfl
  have hD9 := hD.sub (ws' := [(h0, .inr (7, [.ref h1, .ref r0, .int 0, .int 0])), (h1, .inl (g0, 58, .inl (fun _ => 0)))]) [0, 1] (by decide) rfl
  have hK9 := hK.sub (tys' := [(g0, .int)]) [0] rfl
  exact W.zret (v := 0) hx hb hr rfl (fun t ht hW => ⟨⟨0, (), rfl, rfl, by rw [ht]; exact hP9, va_K.moved hW.alike hK9, hD9⟩, hS.F ht⟩) hS.2.2 dX7_has_24
def q_X7_has_5 : List Cond := .code yX7_has cX7_has 2 (some .boolean) :: (([.fieldLink RX7 11 "LeftArguments$Room" "cells" "[I"] : List Cond) ++ wsX70)
set_option maxHeartbeats 4000000 in
set_option maxRecDepth 100000 in
theorem k_X7_has_5 (l : Launch) (dC : Nat → ClassId) (dI : Nat → Nat → Nat) (g0 : ClassId) (h0 h1 : Nat) (r0 : Nat) (sz : Nat) : Met l yX7_has q_X7_has_5 ({ frames := 0, cells := 0, slots := 0, locals := 0 }) (va_Pc [.ref h0, .int 4] (fun U => U.heap.size = sz ∧ va_P (dC, dI) vwCl [(h0, .inr (7, [.ref h1, .ref r0, .int 0, .int 0])), (h1, .inl (g0, 58, .inl (fun _ => 0)))] U.heap ∧ va_K (dC, dI) vwCl [(g0, .int)] U ∧ va_D (fun _ => True) [(h0, .inr (7, [.ref h1, .ref r0, .int 0, .int 0])), (h1, .inl (g0, 58, .inl (fun _ => 0)))])) (va_Qi (fun (r : Int32) (_ : Unit) => r = 0) (fun (_ : Unit) (t : State) => va_P (dC, dI) vwCl [(h0, .inr (7, [.ref h1, .ref r0, .int 0, .int 0])), (h1, .inl (g0, 58, .inl (fun _ => 0)))] t.heap ∧ va_K (dC, dI) vwCl [(g0, .int)] t ∧ va_D (va_A [(h0, .inr (7, [.ref h1, .ref r0, .int 0, .int 0])), (h1, .inl (g0, 58, .inl (fun _ => 0)))] sz) [(h0, .inr (7, [.ref h1, .ref r0, .int 0, .int 0])), (h1, .inl (g0, 58, .inl (fun _ => 0)))]) (va_A [(h0, .inr (7, [.ref h1, .ref r0, .int 0, .int 0])), (h1, .inl (g0, 58, .inl (fun _ => 0)))] sz)) 0 0 (va_A [(h0, .inr (7, [.ref h1, .ref r0, .int 0, .int 0])), (h1, .inl (g0, 58, .inl (fun _ => 0)))] sz) := by
  refine Met.ofW (cc := cX7_has) (maxL := 2) (ret := (some .boolean)) (by decide) rfl ?_
  intro p e s m args below meth c s₁ B hml hv
  obtain ⟨rfl, hsz, hP, hK, hD0⟩ := hv
  have hx := B.exec
  have hb := B.bytes
  have hr := B.returns
  have hts := atoms_spec (ws := q_X7_has_5) B.pre
  have hown : s.vm.findClass RX7 = some m.cls := findClass_of_methodNamed B.named
  have hlocks := B.notSynchronized
  subst hsz
  have hD := hD0.self (sz := s.heap.size)
  generalize hAe : va_A [(h0, .inr (7, [.ref h1, .ref r0, .int 0, .int 0])), (h1, .inl (g0, 58, .inl (fun _ => 0)))] s.heap.size = A at hD ⊢
  have hA : ∀ q : Nat, s.heap.size ≤ q → A q := fun q h => by rw [← hAe]; exact Or.inr h
  have hS : va_S A s.heap s.heap [] := va_S.rf
  have hl := lv_entry ([.ref h0, .int 4]) (n := 2) (Nat.le_of_ble_eq_true rfl)
  rw [lg_entry_eq]
  generalize (lg_sl ([.ref h0, .int 4]) ++ List.replicate (2 - (lg_sl ([.ref h0, .int 4])).length) Slot.unset).toArray = ls at hl ⊢
  have hl : lv_has ls 2 [(0, .ref h0), (1, .int 4)] := hl
  refine lv_iload_n hx hb dX7_has_0 rfl (lv_at hl 1 rfl) ?_
  refine lv_if_lt (tgt := 23) hx hb dX7_has_1 (by decide) (fun c => absurd c (by decide)) (fun _ => ?_)
  refine lv_iload_n hx hb dX7_has_4 rfl (lv_at hl 1 rfl) ?_
  refine lv_bipush (v := 8) hx hb dX7_has_5 (by decide) ?_
  refine lv_icmp_ge (tgt := 23) hx hb dX7_has_7 (by decide) (fun c => absurd c (by decide)) (fun _ => ?_)
  refine lv_aload_n hx hb dX7_has_10 rfl (lv_at hl 0 rfl) ?_
  refine va_get (D := (dC, dI)) (ci := 7) (v := .ref h1) (C := RX7) (T := TX7) (N := 4) hx hb hts (fun _ h => List.mem_cons_of_mem _ (List.mem_append_right _ h)) hown hK hP 0 rfl rfl 0 (by decide) (hts (.fieldLink RX7 11 "LeftArguments$Room" "cells" "[I") (List.mem_cons_of_mem _ (List.mem_append_left _ (List.mem_of_getElem? (i := 0) rfl)))) (fun _ h9 => h9) rfl dX7_has_11 ?_
  refine lv_iload_n hx hb dX7_has_14 rfl (lv_at hl 1 rfl) ?_
  refine va_iald hx hb hK hP 1 0 rfl rfl (pv_c (x := 4) (n := 58) (by decide)) dX7_has_15 ?_
  refine lv_topi (fun tv1 etv1 => ?_)
  obtain rfl : tv1 = (0 : Int32) := etv1.trans (by first | rfl | decide)
  refine lv_if_le (tgt := 23) hx hb dX7_has_16 (by decide) (fun _ => ?_) (fun c => absurd (by decide) c)
  refine lv_iconst (v := 0) hx hb dX7_has_23 (by decide) ?_
  have hP9 := hP.sub (ws' := [(h0, .inr (7, [.ref h1, .ref r0, .int 0, .int 0])), (h1, .inl (g0, 58, .inl (fun _ => 0)))]) [0, 1] rfl
  have hD9 := hD.sub (ws' := [(h0, .inr (7, [.ref h1, .ref r0, .int 0, .int 0])), (h1, .inl (g0, 58, .inl (fun _ => 0)))]) [0, 1] (by decide) rfl
  have hK9 := hK.sub (tys' := [(g0, .int)]) [0] rfl
  exact W.zret (v := 0) hx hb hr rfl (fun t ht hW => ⟨⟨0, (), rfl, rfl, by rw [ht]; exact hP9, va_K.moved hW.alike hK9, hD9⟩, hS.F ht⟩) hS.2.2 dX7_has_24
def q_X7_has_6 : List Cond := .code yX7_has cX7_has 2 (some .boolean) :: (([.fieldLink RX7 11 "LeftArguments$Room" "cells" "[I"] : List Cond) ++ wsX70)
set_option maxHeartbeats 4000000 in
set_option maxRecDepth 100000 in
theorem k_X7_has_6 (l : Launch) (dC : Nat → ClassId) (dI : Nat → Nat → Nat) (g0 : ClassId) (h0 h1 : Nat) (r0 : Nat) (sz : Nat) : Met l yX7_has q_X7_has_6 ({ frames := 0, cells := 0, slots := 0, locals := 0 }) (va_Pc [.ref h0, .int 5] (fun U => U.heap.size = sz ∧ va_P (dC, dI) vwCl [(h0, .inr (7, [.ref h1, .ref r0, .int 0, .int 0])), (h1, .inl (g0, 58, .inl (fun _ => 0)))] U.heap ∧ va_K (dC, dI) vwCl [(g0, .int)] U ∧ va_D (fun _ => True) [(h0, .inr (7, [.ref h1, .ref r0, .int 0, .int 0])), (h1, .inl (g0, 58, .inl (fun _ => 0)))])) (va_Qi (fun (r : Int32) (_ : Unit) => r = 0) (fun (_ : Unit) (t : State) => va_P (dC, dI) vwCl [(h0, .inr (7, [.ref h1, .ref r0, .int 0, .int 0])), (h1, .inl (g0, 58, .inl (fun _ => 0)))] t.heap ∧ va_K (dC, dI) vwCl [(g0, .int)] t ∧ va_D (va_A [(h0, .inr (7, [.ref h1, .ref r0, .int 0, .int 0])), (h1, .inl (g0, 58, .inl (fun _ => 0)))] sz) [(h0, .inr (7, [.ref h1, .ref r0, .int 0, .int 0])), (h1, .inl (g0, 58, .inl (fun _ => 0)))]) (va_A [(h0, .inr (7, [.ref h1, .ref r0, .int 0, .int 0])), (h1, .inl (g0, 58, .inl (fun _ => 0)))] sz)) 0 0 (va_A [(h0, .inr (7, [.ref h1, .ref r0, .int 0, .int 0])), (h1, .inl (g0, 58, .inl (fun _ => 0)))] sz) := by
  refine Met.ofW (cc := cX7_has) (maxL := 2) (ret := (some .boolean)) (by decide) rfl ?_
  intro p e s m args below meth c s₁ B hml hv
  obtain ⟨rfl, hsz, hP, hK, hD0⟩ := hv
  have hx := B.exec
  have hb := B.bytes
  have hr := B.returns
  have hts := atoms_spec (ws := q_X7_has_6) B.pre
  have hown : s.vm.findClass RX7 = some m.cls := findClass_of_methodNamed B.named
  have hlocks := B.notSynchronized
  subst hsz
  have hD := hD0.self (sz := s.heap.size)
  generalize hAe : va_A [(h0, .inr (7, [.ref h1, .ref r0, .int 0, .int 0])), (h1, .inl (g0, 58, .inl (fun _ => 0)))] s.heap.size = A at hD ⊢
  have hA : ∀ q : Nat, s.heap.size ≤ q → A q := fun q h => by rw [← hAe]; exact Or.inr h
  have hS : va_S A s.heap s.heap [] := va_S.rf
  have hl := lv_entry ([.ref h0, .int 5]) (n := 2) (Nat.le_of_ble_eq_true rfl)
  rw [lg_entry_eq]
  generalize (lg_sl ([.ref h0, .int 5]) ++ List.replicate (2 - (lg_sl ([.ref h0, .int 5])).length) Slot.unset).toArray = ls at hl ⊢
  have hl : lv_has ls 2 [(0, .ref h0), (1, .int 5)] := hl
  refine lv_iload_n hx hb dX7_has_0 rfl (lv_at hl 1 rfl) ?_
  refine lv_if_lt (tgt := 23) hx hb dX7_has_1 (by decide) (fun c => absurd c (by decide)) (fun _ => ?_)
  refine lv_iload_n hx hb dX7_has_4 rfl (lv_at hl 1 rfl) ?_
  refine lv_bipush (v := 8) hx hb dX7_has_5 (by decide) ?_
  refine lv_icmp_ge (tgt := 23) hx hb dX7_has_7 (by decide) (fun c => absurd c (by decide)) (fun _ => ?_)
  refine lv_aload_n hx hb dX7_has_10 rfl (lv_at hl 0 rfl) ?_
  refine va_get (D := (dC, dI)) (ci := 7) (v := .ref h1) (C := RX7) (T := TX7) (N := 4) hx hb hts (fun _ h => List.mem_cons_of_mem _ (List.mem_append_right _ h)) hown hK hP 0 rfl rfl 0 (by decide) (hts (.fieldLink RX7 11 "LeftArguments$Room" "cells" "[I") (List.mem_cons_of_mem _ (List.mem_append_left _ (List.mem_of_getElem? (i := 0) rfl)))) (fun _ h9 => h9) rfl dX7_has_11 ?_
  refine lv_iload_n hx hb dX7_has_14 rfl (lv_at hl 1 rfl) ?_
  refine va_iald hx hb hK hP 1 0 rfl rfl (pv_c (x := 5) (n := 58) (by decide)) dX7_has_15 ?_
  refine lv_topi (fun tv1 etv1 => ?_)
  obtain rfl : tv1 = (0 : Int32) := etv1.trans (by first | rfl | decide)
  refine lv_if_le (tgt := 23) hx hb dX7_has_16 (by decide) (fun _ => ?_) (fun c => absurd (by decide) c)
  refine lv_iconst (v := 0) hx hb dX7_has_23 (by decide) ?_
  have hP9 := hP.sub (ws' := [(h0, .inr (7, [.ref h1, .ref r0, .int 0, .int 0])), (h1, .inl (g0, 58, .inl (fun _ => 0)))]) [0, 1] rfl
  have hD9 := hD.sub (ws' := [(h0, .inr (7, [.ref h1, .ref r0, .int 0, .int 0])), (h1, .inl (g0, 58, .inl (fun _ => 0)))]) [0, 1] (by decide) rfl
  have hK9 := hK.sub (tys' := [(g0, .int)]) [0] rfl
  exact W.zret (v := 0) hx hb hr rfl (fun t ht hW => ⟨⟨0, (), rfl, rfl, by rw [ht]; exact hP9, va_K.moved hW.alike hK9, hD9⟩, hS.F ht⟩) hS.2.2 dX7_has_24
def q_X7_has_7 : List Cond := .code yX7_has cX7_has 2 (some .boolean) :: (([.fieldLink RX7 11 "LeftArguments$Room" "cells" "[I"] : List Cond) ++ wsX70)
set_option maxHeartbeats 4000000 in
set_option maxRecDepth 100000 in
theorem k_X7_has_7 (l : Launch) (dC : Nat → ClassId) (dI : Nat → Nat → Nat) (g0 : ClassId) (h0 h1 : Nat) (r0 : Nat) (sz : Nat) : Met l yX7_has q_X7_has_7 ({ frames := 0, cells := 0, slots := 0, locals := 0 }) (va_Pc [.ref h0, .int 6] (fun U => U.heap.size = sz ∧ va_P (dC, dI) vwCl [(h0, .inr (7, [.ref h1, .ref r0, .int 0, .int 0])), (h1, .inl (g0, 58, .inl (fun _ => 0)))] U.heap ∧ va_K (dC, dI) vwCl [(g0, .int)] U ∧ va_D (fun _ => True) [(h0, .inr (7, [.ref h1, .ref r0, .int 0, .int 0])), (h1, .inl (g0, 58, .inl (fun _ => 0)))])) (va_Qi (fun (r : Int32) (_ : Unit) => r = 0) (fun (_ : Unit) (t : State) => va_P (dC, dI) vwCl [(h0, .inr (7, [.ref h1, .ref r0, .int 0, .int 0])), (h1, .inl (g0, 58, .inl (fun _ => 0)))] t.heap ∧ va_K (dC, dI) vwCl [(g0, .int)] t ∧ va_D (va_A [(h0, .inr (7, [.ref h1, .ref r0, .int 0, .int 0])), (h1, .inl (g0, 58, .inl (fun _ => 0)))] sz) [(h0, .inr (7, [.ref h1, .ref r0, .int 0, .int 0])), (h1, .inl (g0, 58, .inl (fun _ => 0)))]) (va_A [(h0, .inr (7, [.ref h1, .ref r0, .int 0, .int 0])), (h1, .inl (g0, 58, .inl (fun _ => 0)))] sz)) 0 0 (va_A [(h0, .inr (7, [.ref h1, .ref r0, .int 0, .int 0])), (h1, .inl (g0, 58, .inl (fun _ => 0)))] sz) := by
  refine Met.ofW (cc := cX7_has) (maxL := 2) (ret := (some .boolean)) (by decide) rfl ?_
  intro p e s m args below meth c s₁ B hml hv
  obtain ⟨rfl, hsz, hP, hK, hD0⟩ := hv
  have hx := B.exec
  have hb := B.bytes
  have hr := B.returns
  have hts := atoms_spec (ws := q_X7_has_7) B.pre
  have hown : s.vm.findClass RX7 = some m.cls := findClass_of_methodNamed B.named
  have hlocks := B.notSynchronized
  subst hsz
  have hD := hD0.self (sz := s.heap.size)
  generalize hAe : va_A [(h0, .inr (7, [.ref h1, .ref r0, .int 0, .int 0])), (h1, .inl (g0, 58, .inl (fun _ => 0)))] s.heap.size = A at hD ⊢
  have hA : ∀ q : Nat, s.heap.size ≤ q → A q := fun q h => by rw [← hAe]; exact Or.inr h
  have hS : va_S A s.heap s.heap [] := va_S.rf
  have hl := lv_entry ([.ref h0, .int 6]) (n := 2) (Nat.le_of_ble_eq_true rfl)
  rw [lg_entry_eq]
  generalize (lg_sl ([.ref h0, .int 6]) ++ List.replicate (2 - (lg_sl ([.ref h0, .int 6])).length) Slot.unset).toArray = ls at hl ⊢
  have hl : lv_has ls 2 [(0, .ref h0), (1, .int 6)] := hl
  refine lv_iload_n hx hb dX7_has_0 rfl (lv_at hl 1 rfl) ?_
  refine lv_if_lt (tgt := 23) hx hb dX7_has_1 (by decide) (fun c => absurd c (by decide)) (fun _ => ?_)
  refine lv_iload_n hx hb dX7_has_4 rfl (lv_at hl 1 rfl) ?_
  refine lv_bipush (v := 8) hx hb dX7_has_5 (by decide) ?_
  refine lv_icmp_ge (tgt := 23) hx hb dX7_has_7 (by decide) (fun c => absurd c (by decide)) (fun _ => ?_)
  refine lv_aload_n hx hb dX7_has_10 rfl (lv_at hl 0 rfl) ?_
  refine va_get (D := (dC, dI)) (ci := 7) (v := .ref h1) (C := RX7) (T := TX7) (N := 4) hx hb hts (fun _ h => List.mem_cons_of_mem _ (List.mem_append_right _ h)) hown hK hP 0 rfl rfl 0 (by decide) (hts (.fieldLink RX7 11 "LeftArguments$Room" "cells" "[I") (List.mem_cons_of_mem _ (List.mem_append_left _ (List.mem_of_getElem? (i := 0) rfl)))) (fun _ h9 => h9) rfl dX7_has_11 ?_
  refine lv_iload_n hx hb dX7_has_14 rfl (lv_at hl 1 rfl) ?_
  refine va_iald hx hb hK hP 1 0 rfl rfl (pv_c (x := 6) (n := 58) (by decide)) dX7_has_15 ?_
  refine lv_topi (fun tv1 etv1 => ?_)
  obtain rfl : tv1 = (0 : Int32) := etv1.trans (by first | rfl | decide)
  refine lv_if_le (tgt := 23) hx hb dX7_has_16 (by decide) (fun _ => ?_) (fun c => absurd (by decide) c)
  refine lv_iconst (v := 0) hx hb dX7_has_23 (by decide) ?_
  have hP9 := hP.sub (ws' := [(h0, .inr (7, [.ref h1, .ref r0, .int 0, .int 0])), (h1, .inl (g0, 58, .inl (fun _ => 0)))]) [0, 1] rfl
  have hD9 := hD.sub (ws' := [(h0, .inr (7, [.ref h1, .ref r0, .int 0, .int 0])), (h1, .inl (g0, 58, .inl (fun _ => 0)))]) [0, 1] (by decide) rfl
  have hK9 := hK.sub (tys' := [(g0, .int)]) [0] rfl
  exact W.zret (v := 0) hx hb hr rfl (fun t ht hW => ⟨⟨0, (), rfl, rfl, by rw [ht]; exact hP9, va_K.moved hW.alike hK9, hD9⟩, hS.F ht⟩) hS.2.2 dX7_has_24
def q_X7_has_8 : List Cond := .code yX7_has cX7_has 2 (some .boolean) :: (([.fieldLink RX7 11 "LeftArguments$Room" "cells" "[I"] : List Cond) ++ wsX70)
set_option maxHeartbeats 4000000 in
set_option maxRecDepth 100000 in
theorem k_X7_has_8 (l : Launch) (dC : Nat → ClassId) (dI : Nat → Nat → Nat) (g0 : ClassId) (h0 h1 : Nat) (r0 : Nat) (sz : Nat) : Met l yX7_has q_X7_has_8 ({ frames := 0, cells := 0, slots := 0, locals := 0 }) (va_Pc [.ref h0, .int 7] (fun U => U.heap.size = sz ∧ va_P (dC, dI) vwCl [(h0, .inr (7, [.ref h1, .ref r0, .int 0, .int 0])), (h1, .inl (g0, 58, .inl (fun _ => 0)))] U.heap ∧ va_K (dC, dI) vwCl [(g0, .int)] U ∧ va_D (fun _ => True) [(h0, .inr (7, [.ref h1, .ref r0, .int 0, .int 0])), (h1, .inl (g0, 58, .inl (fun _ => 0)))])) (va_Qi (fun (r : Int32) (_ : Unit) => r = 0) (fun (_ : Unit) (t : State) => va_P (dC, dI) vwCl [(h0, .inr (7, [.ref h1, .ref r0, .int 0, .int 0])), (h1, .inl (g0, 58, .inl (fun _ => 0)))] t.heap ∧ va_K (dC, dI) vwCl [(g0, .int)] t ∧ va_D (va_A [(h0, .inr (7, [.ref h1, .ref r0, .int 0, .int 0])), (h1, .inl (g0, 58, .inl (fun _ => 0)))] sz) [(h0, .inr (7, [.ref h1, .ref r0, .int 0, .int 0])), (h1, .inl (g0, 58, .inl (fun _ => 0)))]) (va_A [(h0, .inr (7, [.ref h1, .ref r0, .int 0, .int 0])), (h1, .inl (g0, 58, .inl (fun _ => 0)))] sz)) 0 0 (va_A [(h0, .inr (7, [.ref h1, .ref r0, .int 0, .int 0])), (h1, .inl (g0, 58, .inl (fun _ => 0)))] sz) := by
  refine Met.ofW (cc := cX7_has) (maxL := 2) (ret := (some .boolean)) (by decide) rfl ?_
  intro p e s m args below meth c s₁ B hml hv
  obtain ⟨rfl, hsz, hP, hK, hD0⟩ := hv
  have hx := B.exec
  have hb := B.bytes
  have hr := B.returns
  have hts := atoms_spec (ws := q_X7_has_8) B.pre
  have hown : s.vm.findClass RX7 = some m.cls := findClass_of_methodNamed B.named
  have hlocks := B.notSynchronized
  subst hsz
  have hD := hD0.self (sz := s.heap.size)
  generalize hAe : va_A [(h0, .inr (7, [.ref h1, .ref r0, .int 0, .int 0])), (h1, .inl (g0, 58, .inl (fun _ => 0)))] s.heap.size = A at hD ⊢
  have hA : ∀ q : Nat, s.heap.size ≤ q → A q := fun q h => by rw [← hAe]; exact Or.inr h
  have hS : va_S A s.heap s.heap [] := va_S.rf
  have hl := lv_entry ([.ref h0, .int 7]) (n := 2) (Nat.le_of_ble_eq_true rfl)
  rw [lg_entry_eq]
  generalize (lg_sl ([.ref h0, .int 7]) ++ List.replicate (2 - (lg_sl ([.ref h0, .int 7])).length) Slot.unset).toArray = ls at hl ⊢
  have hl : lv_has ls 2 [(0, .ref h0), (1, .int 7)] := hl
  refine lv_iload_n hx hb dX7_has_0 rfl (lv_at hl 1 rfl) ?_
  refine lv_if_lt (tgt := 23) hx hb dX7_has_1 (by decide) (fun c => absurd c (by decide)) (fun _ => ?_)
  refine lv_iload_n hx hb dX7_has_4 rfl (lv_at hl 1 rfl) ?_
  refine lv_bipush (v := 8) hx hb dX7_has_5 (by decide) ?_
  refine lv_icmp_ge (tgt := 23) hx hb dX7_has_7 (by decide) (fun c => absurd c (by decide)) (fun _ => ?_)
  refine lv_aload_n hx hb dX7_has_10 rfl (lv_at hl 0 rfl) ?_
  refine va_get (D := (dC, dI)) (ci := 7) (v := .ref h1) (C := RX7) (T := TX7) (N := 4) hx hb hts (fun _ h => List.mem_cons_of_mem _ (List.mem_append_right _ h)) hown hK hP 0 rfl rfl 0 (by decide) (hts (.fieldLink RX7 11 "LeftArguments$Room" "cells" "[I") (List.mem_cons_of_mem _ (List.mem_append_left _ (List.mem_of_getElem? (i := 0) rfl)))) (fun _ h9 => h9) rfl dX7_has_11 ?_
  refine lv_iload_n hx hb dX7_has_14 rfl (lv_at hl 1 rfl) ?_
  refine va_iald hx hb hK hP 1 0 rfl rfl (pv_c (x := 7) (n := 58) (by decide)) dX7_has_15 ?_
  refine lv_topi (fun tv1 etv1 => ?_)
  obtain rfl : tv1 = (0 : Int32) := etv1.trans (by first | rfl | decide)
  refine lv_if_le (tgt := 23) hx hb dX7_has_16 (by decide) (fun _ => ?_) (fun c => absurd (by decide) c)
  refine lv_iconst (v := 0) hx hb dX7_has_23 (by decide) ?_
  have hP9 := hP.sub (ws' := [(h0, .inr (7, [.ref h1, .ref r0, .int 0, .int 0])), (h1, .inl (g0, 58, .inl (fun _ => 0)))]) [0, 1] rfl
  have hD9 := hD.sub (ws' := [(h0, .inr (7, [.ref h1, .ref r0, .int 0, .int 0])), (h1, .inl (g0, 58, .inl (fun _ => 0)))]) [0, 1] (by decide) rfl
  have hK9 := hK.sub (tys' := [(g0, .int)]) [0] rfl
  exact W.zret (v := 0) hx hb hr rfl (fun t ht hW => ⟨⟨0, (), rfl, rfl, by rw [ht]; exact hP9, va_K.moved hW.alike hK9, hD9⟩, hS.F ht⟩) hS.2.2 dX7_has_24
def q_X7_bagsWith : List Cond := .code yX7_bagsWith cX7_bagsWith 5 (some .int) :: (([.code yX7_has cX7_has 2 (some .boolean), .fieldLink RX7 11 "LeftArguments$Room" "cells" "[I", .initialized RX7, .instanceMethod yX7_has, .selects RX7 yX7_has yX7_has, .methodLink RX7 70 yX7_has] : List Cond) ++ wsX70)
set_option maxRecDepth 20000 in
theorem g_X7_bagsWith_0 : GoodIn q_X7_bagsWith (wsV RX7 70 RX7 yX7_has q_X7_has_1) := goodIn_app (goodIn_r _ [6, 4, 5, 3] (by decide +kernel) (by decide +kernel)) (goodIn_ca (goodIn_r (.code yX7_has cX7_has 2 (some .boolean) :: [.fieldLink RX7 11 "LeftArguments$Room" "cells" "[I"]) [1, 2] (by decide +kernel) (by decide +kernel)) (goodIn_sub (fun _ h => List.mem_cons_of_mem _ (List.mem_append_right _ h)) gwX7))
set_option maxRecDepth 20000 in
theorem g_X7_bagsWith_1 : GoodIn q_X7_bagsWith (wsV RX7 70 RX7 yX7_has q_X7_has_2) := goodIn_app (goodIn_r _ [6, 4, 5, 3] (by decide +kernel) (by decide +kernel)) (goodIn_ca (goodIn_r (.code yX7_has cX7_has 2 (some .boolean) :: [.fieldLink RX7 11 "LeftArguments$Room" "cells" "[I"]) [1, 2] (by decide +kernel) (by decide +kernel)) (goodIn_sub (fun _ h => List.mem_cons_of_mem _ (List.mem_append_right _ h)) gwX7))
set_option maxRecDepth 20000 in
theorem g_X7_bagsWith_2 : GoodIn q_X7_bagsWith (wsV RX7 70 RX7 yX7_has q_X7_has_3) := goodIn_app (goodIn_r _ [6, 4, 5, 3] (by decide +kernel) (by decide +kernel)) (goodIn_ca (goodIn_r (.code yX7_has cX7_has 2 (some .boolean) :: [.fieldLink RX7 11 "LeftArguments$Room" "cells" "[I"]) [1, 2] (by decide +kernel) (by decide +kernel)) (goodIn_sub (fun _ h => List.mem_cons_of_mem _ (List.mem_append_right _ h)) gwX7))
set_option maxRecDepth 20000 in
theorem g_X7_bagsWith_3 : GoodIn q_X7_bagsWith (wsV RX7 70 RX7 yX7_has q_X7_has_4) := goodIn_app (goodIn_r _ [6, 4, 5, 3] (by decide +kernel) (by decide +kernel)) (goodIn_ca (goodIn_r (.code yX7_has cX7_has 2 (some .boolean) :: [.fieldLink RX7 11 "LeftArguments$Room" "cells" "[I"]) [1, 2] (by decide +kernel) (by decide +kernel)) (goodIn_sub (fun _ h => List.mem_cons_of_mem _ (List.mem_append_right _ h)) gwX7))
set_option maxRecDepth 20000 in
theorem g_X7_bagsWith_4 : GoodIn q_X7_bagsWith (wsV RX7 70 RX7 yX7_has q_X7_has_5) := goodIn_app (goodIn_r _ [6, 4, 5, 3] (by decide +kernel) (by decide +kernel)) (goodIn_ca (goodIn_r (.code yX7_has cX7_has 2 (some .boolean) :: [.fieldLink RX7 11 "LeftArguments$Room" "cells" "[I"]) [1, 2] (by decide +kernel) (by decide +kernel)) (goodIn_sub (fun _ h => List.mem_cons_of_mem _ (List.mem_append_right _ h)) gwX7))
set_option maxRecDepth 20000 in
theorem g_X7_bagsWith_5 : GoodIn q_X7_bagsWith (wsV RX7 70 RX7 yX7_has q_X7_has_6) := goodIn_app (goodIn_r _ [6, 4, 5, 3] (by decide +kernel) (by decide +kernel)) (goodIn_ca (goodIn_r (.code yX7_has cX7_has 2 (some .boolean) :: [.fieldLink RX7 11 "LeftArguments$Room" "cells" "[I"]) [1, 2] (by decide +kernel) (by decide +kernel)) (goodIn_sub (fun _ h => List.mem_cons_of_mem _ (List.mem_append_right _ h)) gwX7))
set_option maxRecDepth 20000 in
theorem g_X7_bagsWith_6 : GoodIn q_X7_bagsWith (wsV RX7 70 RX7 yX7_has q_X7_has_7) := goodIn_app (goodIn_r _ [6, 4, 5, 3] (by decide +kernel) (by decide +kernel)) (goodIn_ca (goodIn_r (.code yX7_has cX7_has 2 (some .boolean) :: [.fieldLink RX7 11 "LeftArguments$Room" "cells" "[I"]) [1, 2] (by decide +kernel) (by decide +kernel)) (goodIn_sub (fun _ h => List.mem_cons_of_mem _ (List.mem_append_right _ h)) gwX7))
set_option maxRecDepth 20000 in
theorem g_X7_bagsWith_7 : GoodIn q_X7_bagsWith (wsV RX7 70 RX7 yX7_has q_X7_has_8) := goodIn_app (goodIn_r _ [6, 4, 5, 3] (by decide +kernel) (by decide +kernel)) (goodIn_ca (goodIn_r (.code yX7_has cX7_has 2 (some .boolean) :: [.fieldLink RX7 11 "LeftArguments$Room" "cells" "[I"]) [1, 2] (by decide +kernel) (by decide +kernel)) (goodIn_sub (fun _ h => List.mem_cons_of_mem _ (List.mem_append_right _ h)) gwX7))
set_option maxHeartbeats 4000000 in
set_option maxRecDepth 100000 in
theorem k_X7_bagsWith (l : Launch) (dC : Nat → ClassId) (dI : Nat → Nat → Nat) (g0 : ClassId) (h0 h1 : Nat) (r0 : Nat) (sz : Nat) : Met l yX7_bagsWith q_X7_bagsWith ({ frames := 1, cells := 0, slots := 0, locals := 21 }) (va_Pc [.ref h0, .int 0, .int 1] (fun U => U.heap.size = sz ∧ va_P (dC, dI) vwCl [(h0, .inr (7, [.ref h1, .ref r0, .int 0, .int 0])), (h1, .inl (g0, 58, .inl (fun _ => 0)))] U.heap ∧ va_K (dC, dI) vwCl [(g0, .int)] U ∧ va_D (fun _ => True) [(h0, .inr (7, [.ref h1, .ref r0, .int 0, .int 0])), (h1, .inl (g0, 58, .inl (fun _ => 0)))])) (va_Qi (fun (r : Int32) (_ : Unit) => r = 0) (fun (_ : Unit) (t : State) => va_P (dC, dI) vwCl [(h0, .inr (7, [.ref h1, .ref r0, .int 0, .int 0])), (h1, .inl (g0, 58, .inl (fun _ => 0)))] t.heap ∧ va_K (dC, dI) vwCl [(g0, .int)] t ∧ va_D (va_A [(h0, .inr (7, [.ref h1, .ref r0, .int 0, .int 0])), (h1, .inl (g0, 58, .inl (fun _ => 0)))] sz) [(h0, .inr (7, [.ref h1, .ref r0, .int 0, .int 0])), (h1, .inl (g0, 58, .inl (fun _ => 0)))]) (va_A [(h0, .inr (7, [.ref h1, .ref r0, .int 0, .int 0])), (h1, .inl (g0, 58, .inl (fun _ => 0)))] sz)) 0 0 (va_A [(h0, .inr (7, [.ref h1, .ref r0, .int 0, .int 0])), (h1, .inl (g0, 58, .inl (fun _ => 0)))] sz) := by
  refine Met.ofW (cc := cX7_bagsWith) (maxL := 5) (ret := (some .int)) (by decide) rfl ?_
  intro p e s m args below meth c s₁ B hml hv
  obtain ⟨rfl, hsz, hP, hK, hD0⟩ := hv
  have hx := B.exec
  have hb := B.bytes
  have hr := B.returns
  have hts := atoms_spec (ws := q_X7_bagsWith) B.pre
  have hown : s.vm.findClass RX7 = some m.cls := findClass_of_methodNamed B.named
  have hlocks := B.notSynchronized
  subst hsz
  have hD := hD0.self (sz := s.heap.size)
  generalize hAe : va_A [(h0, .inr (7, [.ref h1, .ref r0, .int 0, .int 0])), (h1, .inl (g0, 58, .inl (fun _ => 0)))] s.heap.size = A at hD ⊢
  have hA : ∀ q : Nat, s.heap.size ≤ q → A q := fun q h => by rw [← hAe]; exact Or.inr h
  have hS : va_S A s.heap s.heap [] := va_S.rf
  have hl := lv_entry ([.ref h0, .int 0, .int 1]) (n := 5) (Nat.le_of_ble_eq_true rfl)
  rw [lg_entry_eq]
  generalize (lg_sl ([.ref h0, .int 0, .int 1]) ++ List.replicate (5 - (lg_sl ([.ref h0, .int 0, .int 1])).length) Slot.unset).toArray = ls at hl ⊢
  have hl : lv_has ls 5 [(0, .ref h0), (1, .int 0), (2, .int 1)] := hl
  refine lv_iconst (v := 0) hx hb dX7_bagsWith_0 (by decide) ?_
  refine lv_istore_n (lv' := [(3, .int 0), (0, .ref h0), (1, .int 0), (2, .int 1)]) hx hb dX7_bagsWith_1 rfl hl (by decide) rfl (fun ls hl => ?_)
  refine lv_iconst (v := 0) hx hb dX7_bagsWith_2 (by decide) ?_
  refine lv_istore (lv' := [(4, .int 0), (3, .int 0), (0, .ref h0), (1, .int 0), (2, .int 1)]) hx hb dX7_bagsWith_3 hl (by decide) rfl (fun ls hl => ?_)
  refine lv_iload hx hb dX7_bagsWith_5 (lv_at hl 0 rfl) ?_
  refine lv_bipush (v := 8) hx hb dX7_bagsWith_7 (by decide) ?_
  refine lv_icmp_ge (tgt := 45) hx hb dX7_bagsWith_9 (by decide) (fun c => absurd c (by decide)) (fun _ => ?_)
  refine lv_aload_n hx hb dX7_bagsWith_12 rfl (lv_at hl 2 rfl) ?_
  refine lv_iload hx hb dX7_bagsWith_13 (lv_at hl 0 rfl) ?_
  have hPc := hP.sub (ws' := [(h0, .inr (7, [.ref h1, .ref r0, .int 0, .int 0])), (h1, .inl (g0, 58, .inl (fun _ => 0)))]) [0, 1] rfl
  have hDc := hD.sub (ws' := [(h0, .inr (7, [.ref h1, .ref r0, .int 0, .int 0])), (h1, .inl (g0, 58, .inl (fun _ => 0)))]) [0, 1] (by decide) rfl
  have hKc := hK.sub (tys' := [(g0, .int)]) [0] rfl
  have hFc := va_free (wc := [(h0, .inr (7, [.ref h1, .ref r0, .int 0, .int 0])), (h1, .inl (g0, 58, .inl (fun _ => 0)))]) hD hS hA [0, 1] rfl
  refine va_calli (va_runV (As := [.int 0]) (rest := []) ⟨hx, hb, hml, hown, hts⟩ (k_X7_has_1 l dC dI g0 h0 h1 r0  s.heap.size) (cwV 1 hts g_X7_bagsWith_0 rfl rfl rfl (by decide +kernel) ⟨Nat.le_of_ble_eq_true rfl, Nat.le_of_ble_eq_true rfl⟩) ⟨fun a U g mk q => by obtain ⟨q0, q1, qP, qK, qD⟩ := q; exact ⟨q0, q1, qP, va_K.moved (u := U) (U := U.calling g mk a) (Vm.Alike.refl U.vm) qK, qD⟩, va_recv hKc hPc (ci := 7) (q0 := 0) rfl rfl, fun U hU hW => ⟨rfl, by rw [hU], by rw [hU]; exact hPc, va_K.moved hW.alike hKc, hDc.weaken (fun _ _ _ _ => trivial)⟩⟩ rfl rfl hl.1 rfl (lv_room (Nat.le_of_ble_eq_true rfl)) dX7_bagsWith_15 ⟨Nat.le_of_ble_eq_true rfl, Nat.le_of_ble_eq_true rfl⟩) hS (fun q _ h => hFc q h) hFc (fun ra1 u t H1 locs ht hvm hw hB hz1 hk1 hS => ?_)
  obtain ⟨hP1, hK1, hD1⟩ := hB
  rw [ht] at hP1
  obtain ⟨hP, hD⟩ := va_join (wr := []) (w1 := [(h0, .inr (7, [.ref h1, .ref r0, .int 0, .int 0])), (h1, .inl (g0, 58, .inl (fun _ => 0)))]) hP hD [0, 1] [] rfl rfl (by decide) (by decide) hk1 hFc hP1 hD1
  generalize H1 = H at hP hS ⊢
  have hP : va_P (dC, dI) vwCl [(h0, .inr (7, [.ref h1, .ref r0, .int 0, .int 0])), (h1, .inl (g0, 58, .inl (fun _ => 0)))] H := hP
  have hD : va_D A [(h0, .inr (7, [.ref h1, .ref r0, .int 0, .int 0])), (h1, .inl (g0, 58, .inl (fun _ => 0)))] := hD
  obtain rfl : ra1 = (0 : Int32) := hw
  refine lv_if_eq (tgt := 39) hx hb dX7_bagsWith_18 (by decide) (fun _ => ?_) (fun c => absurd (by decide) c)
  refine lv_iinc (v := 1) (lv' := [(4, .int 1), (3, .int 0), (0, .ref h0), (1, .int 0), (2, .int 1)]) hx hb dX7_bagsWith_39 hl (k := 0) rfl (by decide) (by decide) rfl (fun ls hl => ?_)
  refine lv_goto (tgt := 5) hx hb dX7_bagsWith_42 (by decide) ?_
  refine lv_iload hx hb dX7_bagsWith_5 (lv_at hl 0 rfl) ?_
  refine lv_bipush (v := 8) hx hb dX7_bagsWith_7 (by decide) ?_
  refine lv_icmp_ge (tgt := 45) hx hb dX7_bagsWith_9 (by decide) (fun c => absurd c (by decide)) (fun _ => ?_)
  refine lv_aload_n hx hb dX7_bagsWith_12 rfl (lv_at hl 2 rfl) ?_
  refine lv_iload hx hb dX7_bagsWith_13 (lv_at hl 0 rfl) ?_
  have hPc := hP.sub (ws' := [(h0, .inr (7, [.ref h1, .ref r0, .int 0, .int 0])), (h1, .inl (g0, 58, .inl (fun _ => 0)))]) [0, 1] rfl
  have hDc := hD.sub (ws' := [(h0, .inr (7, [.ref h1, .ref r0, .int 0, .int 0])), (h1, .inl (g0, 58, .inl (fun _ => 0)))]) [0, 1] (by decide) rfl
  have hKc := hK.sub (tys' := [(g0, .int)]) [0] rfl
  have hFc := va_free (wc := [(h0, .inr (7, [.ref h1, .ref r0, .int 0, .int 0])), (h1, .inl (g0, 58, .inl (fun _ => 0)))]) hD hS hA [0, 1] rfl
  refine va_calli (va_runV (As := [.int 1]) (rest := []) ⟨hx, hb, hml, hown, hts⟩ (k_X7_has_2 l dC dI g0 h0 h1 r0  H.size) (cwV 1 hts g_X7_bagsWith_1 rfl rfl rfl (by decide +kernel) ⟨Nat.le_of_ble_eq_true rfl, Nat.le_of_ble_eq_true rfl⟩) ⟨fun a U g mk q => by obtain ⟨q0, q1, qP, qK, qD⟩ := q; exact ⟨q0, q1, qP, va_K.moved (u := U) (U := U.calling g mk a) (Vm.Alike.refl U.vm) qK, qD⟩, va_recv hKc hPc (ci := 7) (q0 := 0) rfl rfl, fun U hU hW => ⟨rfl, by rw [hU], by rw [hU]; exact hPc, va_K.moved hW.alike hKc, hDc.weaken (fun _ _ _ _ => trivial)⟩⟩ rfl rfl hl.1 rfl (lv_room (Nat.le_of_ble_eq_true rfl)) dX7_bagsWith_15 ⟨Nat.le_of_ble_eq_true rfl, Nat.le_of_ble_eq_true rfl⟩) hS (fun q _ h => hFc q h) hFc (fun ra2 u t H1 locs ht hvm hw hB hz1 hk1 hS => ?_)
  obtain ⟨hP1, hK1, hD1⟩ := hB
  rw [ht] at hP1
  obtain ⟨hP, hD⟩ := va_join (wr := []) (w1 := [(h0, .inr (7, [.ref h1, .ref r0, .int 0, .int 0])), (h1, .inl (g0, 58, .inl (fun _ => 0)))]) hP hD [0, 1] [] rfl rfl (by decide) (by decide) hk1 hFc hP1 hD1
  generalize H1 = H at hP hS ⊢
  have hP : va_P (dC, dI) vwCl [(h0, .inr (7, [.ref h1, .ref r0, .int 0, .int 0])), (h1, .inl (g0, 58, .inl (fun _ => 0)))] H := hP
  have hD : va_D A [(h0, .inr (7, [.ref h1, .ref r0, .int 0, .int 0])), (h1, .inl (g0, 58, .inl (fun _ => 0)))] := hD
  obtain rfl : ra2 = (0 : Int32) := hw
  refine lv_if_eq (tgt := 39) hx hb dX7_bagsWith_18 (by decide) (fun _ => ?_) (fun c => absurd (by decide) c)
  refine lv_iinc (v := 2) (lv' := [(4, .int 2), (3, .int 0), (0, .ref h0), (1, .int 0), (2, .int 1)]) hx hb dX7_bagsWith_39 hl (k := 0) rfl (by decide) (by decide) rfl (fun ls hl => ?_)
  refine lv_goto (tgt := 5) hx hb dX7_bagsWith_42 (by decide) ?_
  refine lv_iload hx hb dX7_bagsWith_5 (lv_at hl 0 rfl) ?_
  refine lv_bipush (v := 8) hx hb dX7_bagsWith_7 (by decide) ?_
  refine lv_icmp_ge (tgt := 45) hx hb dX7_bagsWith_9 (by decide) (fun c => absurd c (by decide)) (fun _ => ?_)
  refine lv_aload_n hx hb dX7_bagsWith_12 rfl (lv_at hl 2 rfl) ?_
  refine lv_iload hx hb dX7_bagsWith_13 (lv_at hl 0 rfl) ?_
  have hPc := hP.sub (ws' := [(h0, .inr (7, [.ref h1, .ref r0, .int 0, .int 0])), (h1, .inl (g0, 58, .inl (fun _ => 0)))]) [0, 1] rfl
  have hDc := hD.sub (ws' := [(h0, .inr (7, [.ref h1, .ref r0, .int 0, .int 0])), (h1, .inl (g0, 58, .inl (fun _ => 0)))]) [0, 1] (by decide) rfl
  have hKc := hK.sub (tys' := [(g0, .int)]) [0] rfl
  have hFc := va_free (wc := [(h0, .inr (7, [.ref h1, .ref r0, .int 0, .int 0])), (h1, .inl (g0, 58, .inl (fun _ => 0)))]) hD hS hA [0, 1] rfl
  refine va_calli (va_runV (As := [.int 2]) (rest := []) ⟨hx, hb, hml, hown, hts⟩ (k_X7_has_3 l dC dI g0 h0 h1 r0  H.size) (cwV 1 hts g_X7_bagsWith_2 rfl rfl rfl (by decide +kernel) ⟨Nat.le_of_ble_eq_true rfl, Nat.le_of_ble_eq_true rfl⟩) ⟨fun a U g mk q => by obtain ⟨q0, q1, qP, qK, qD⟩ := q; exact ⟨q0, q1, qP, va_K.moved (u := U) (U := U.calling g mk a) (Vm.Alike.refl U.vm) qK, qD⟩, va_recv hKc hPc (ci := 7) (q0 := 0) rfl rfl, fun U hU hW => ⟨rfl, by rw [hU], by rw [hU]; exact hPc, va_K.moved hW.alike hKc, hDc.weaken (fun _ _ _ _ => trivial)⟩⟩ rfl rfl hl.1 rfl (lv_room (Nat.le_of_ble_eq_true rfl)) dX7_bagsWith_15 ⟨Nat.le_of_ble_eq_true rfl, Nat.le_of_ble_eq_true rfl⟩) hS (fun q _ h => hFc q h) hFc (fun ra3 u t H1 locs ht hvm hw hB hz1 hk1 hS => ?_)
  obtain ⟨hP1, hK1, hD1⟩ := hB
  rw [ht] at hP1
  obtain ⟨hP, hD⟩ := va_join (wr := []) (w1 := [(h0, .inr (7, [.ref h1, .ref r0, .int 0, .int 0])), (h1, .inl (g0, 58, .inl (fun _ => 0)))]) hP hD [0, 1] [] rfl rfl (by decide) (by decide) hk1 hFc hP1 hD1
  generalize H1 = H at hP hS ⊢
  have hP : va_P (dC, dI) vwCl [(h0, .inr (7, [.ref h1, .ref r0, .int 0, .int 0])), (h1, .inl (g0, 58, .inl (fun _ => 0)))] H := hP
  have hD : va_D A [(h0, .inr (7, [.ref h1, .ref r0, .int 0, .int 0])), (h1, .inl (g0, 58, .inl (fun _ => 0)))] := hD
  obtain rfl : ra3 = (0 : Int32) := hw
  refine lv_if_eq (tgt := 39) hx hb dX7_bagsWith_18 (by decide) (fun _ => ?_) (fun c => absurd (by decide) c)
  refine lv_iinc (v := 3) (lv' := [(4, .int 3), (3, .int 0), (0, .ref h0), (1, .int 0), (2, .int 1)]) hx hb dX7_bagsWith_39 hl (k := 0) rfl (by decide) (by decide) rfl (fun ls hl => ?_)
  refine lv_goto (tgt := 5) hx hb dX7_bagsWith_42 (by decide) ?_
  refine lv_iload hx hb dX7_bagsWith_5 (lv_at hl 0 rfl) ?_
  refine lv_bipush (v := 8) hx hb dX7_bagsWith_7 (by decide) ?_
  refine lv_icmp_ge (tgt := 45) hx hb dX7_bagsWith_9 (by decide) (fun c => absurd c (by decide)) (fun _ => ?_)
  refine lv_aload_n hx hb dX7_bagsWith_12 rfl (lv_at hl 2 rfl) ?_
  refine lv_iload hx hb dX7_bagsWith_13 (lv_at hl 0 rfl) ?_
  have hPc := hP.sub (ws' := [(h0, .inr (7, [.ref h1, .ref r0, .int 0, .int 0])), (h1, .inl (g0, 58, .inl (fun _ => 0)))]) [0, 1] rfl
  have hDc := hD.sub (ws' := [(h0, .inr (7, [.ref h1, .ref r0, .int 0, .int 0])), (h1, .inl (g0, 58, .inl (fun _ => 0)))]) [0, 1] (by decide) rfl
  have hKc := hK.sub (tys' := [(g0, .int)]) [0] rfl
  have hFc := va_free (wc := [(h0, .inr (7, [.ref h1, .ref r0, .int 0, .int 0])), (h1, .inl (g0, 58, .inl (fun _ => 0)))]) hD hS hA [0, 1] rfl
  refine va_calli (va_runV (As := [.int 3]) (rest := []) ⟨hx, hb, hml, hown, hts⟩ (k_X7_has_4 l dC dI g0 h0 h1 r0  H.size) (cwV 1 hts g_X7_bagsWith_3 rfl rfl rfl (by decide +kernel) ⟨Nat.le_of_ble_eq_true rfl, Nat.le_of_ble_eq_true rfl⟩) ⟨fun a U g mk q => by obtain ⟨q0, q1, qP, qK, qD⟩ := q; exact ⟨q0, q1, qP, va_K.moved (u := U) (U := U.calling g mk a) (Vm.Alike.refl U.vm) qK, qD⟩, va_recv hKc hPc (ci := 7) (q0 := 0) rfl rfl, fun U hU hW => ⟨rfl, by rw [hU], by rw [hU]; exact hPc, va_K.moved hW.alike hKc, hDc.weaken (fun _ _ _ _ => trivial)⟩⟩ rfl rfl hl.1 rfl (lv_room (Nat.le_of_ble_eq_true rfl)) dX7_bagsWith_15 ⟨Nat.le_of_ble_eq_true rfl, Nat.le_of_ble_eq_true rfl⟩) hS (fun q _ h => hFc q h) hFc (fun ra4 u t H1 locs ht hvm hw hB hz1 hk1 hS => ?_)
  obtain ⟨hP1, hK1, hD1⟩ := hB
  rw [ht] at hP1
  obtain ⟨hP, hD⟩ := va_join (wr := []) (w1 := [(h0, .inr (7, [.ref h1, .ref r0, .int 0, .int 0])), (h1, .inl (g0, 58, .inl (fun _ => 0)))]) hP hD [0, 1] [] rfl rfl (by decide) (by decide) hk1 hFc hP1 hD1
  generalize H1 = H at hP hS ⊢
  have hP : va_P (dC, dI) vwCl [(h0, .inr (7, [.ref h1, .ref r0, .int 0, .int 0])), (h1, .inl (g0, 58, .inl (fun _ => 0)))] H := hP
  have hD : va_D A [(h0, .inr (7, [.ref h1, .ref r0, .int 0, .int 0])), (h1, .inl (g0, 58, .inl (fun _ => 0)))] := hD
  obtain rfl : ra4 = (0 : Int32) := hw
  refine lv_if_eq (tgt := 39) hx hb dX7_bagsWith_18 (by decide) (fun _ => ?_) (fun c => absurd (by decide) c)
  refine lv_iinc (v := 4) (lv' := [(4, .int 4), (3, .int 0), (0, .ref h0), (1, .int 0), (2, .int 1)]) hx hb dX7_bagsWith_39 hl (k := 0) rfl (by decide) (by decide) rfl (fun ls hl => ?_)
  refine lv_goto (tgt := 5) hx hb dX7_bagsWith_42 (by decide) ?_
  refine lv_iload hx hb dX7_bagsWith_5 (lv_at hl 0 rfl) ?_
  refine lv_bipush (v := 8) hx hb dX7_bagsWith_7 (by decide) ?_
  refine lv_icmp_ge (tgt := 45) hx hb dX7_bagsWith_9 (by decide) (fun c => absurd c (by decide)) (fun _ => ?_)
  refine lv_aload_n hx hb dX7_bagsWith_12 rfl (lv_at hl 2 rfl) ?_
  refine lv_iload hx hb dX7_bagsWith_13 (lv_at hl 0 rfl) ?_
  have hPc := hP.sub (ws' := [(h0, .inr (7, [.ref h1, .ref r0, .int 0, .int 0])), (h1, .inl (g0, 58, .inl (fun _ => 0)))]) [0, 1] rfl
  have hDc := hD.sub (ws' := [(h0, .inr (7, [.ref h1, .ref r0, .int 0, .int 0])), (h1, .inl (g0, 58, .inl (fun _ => 0)))]) [0, 1] (by decide) rfl
  have hKc := hK.sub (tys' := [(g0, .int)]) [0] rfl
  have hFc := va_free (wc := [(h0, .inr (7, [.ref h1, .ref r0, .int 0, .int 0])), (h1, .inl (g0, 58, .inl (fun _ => 0)))]) hD hS hA [0, 1] rfl
  refine va_calli (va_runV (As := [.int 4]) (rest := []) ⟨hx, hb, hml, hown, hts⟩ (k_X7_has_5 l dC dI g0 h0 h1 r0  H.size) (cwV 1 hts g_X7_bagsWith_4 rfl rfl rfl (by decide +kernel) ⟨Nat.le_of_ble_eq_true rfl, Nat.le_of_ble_eq_true rfl⟩) ⟨fun a U g mk q => by obtain ⟨q0, q1, qP, qK, qD⟩ := q; exact ⟨q0, q1, qP, va_K.moved (u := U) (U := U.calling g mk a) (Vm.Alike.refl U.vm) qK, qD⟩, va_recv hKc hPc (ci := 7) (q0 := 0) rfl rfl, fun U hU hW => ⟨rfl, by rw [hU], by rw [hU]; exact hPc, va_K.moved hW.alike hKc, hDc.weaken (fun _ _ _ _ => trivial)⟩⟩ rfl rfl hl.1 rfl (lv_room (Nat.le_of_ble_eq_true rfl)) dX7_bagsWith_15 ⟨Nat.le_of_ble_eq_true rfl, Nat.le_of_ble_eq_true rfl⟩) hS (fun q _ h => hFc q h) hFc (fun ra5 u t H1 locs ht hvm hw hB hz1 hk1 hS => ?_)
  obtain ⟨hP1, hK1, hD1⟩ := hB
  rw [ht] at hP1
  obtain ⟨hP, hD⟩ := va_join (wr := []) (w1 := [(h0, .inr (7, [.ref h1, .ref r0, .int 0, .int 0])), (h1, .inl (g0, 58, .inl (fun _ => 0)))]) hP hD [0, 1] [] rfl rfl (by decide) (by decide) hk1 hFc hP1 hD1
  generalize H1 = H at hP hS ⊢
  have hP : va_P (dC, dI) vwCl [(h0, .inr (7, [.ref h1, .ref r0, .int 0, .int 0])), (h1, .inl (g0, 58, .inl (fun _ => 0)))] H := hP
  have hD : va_D A [(h0, .inr (7, [.ref h1, .ref r0, .int 0, .int 0])), (h1, .inl (g0, 58, .inl (fun _ => 0)))] := hD
  obtain rfl : ra5 = (0 : Int32) := hw
  refine lv_if_eq (tgt := 39) hx hb dX7_bagsWith_18 (by decide) (fun _ => ?_) (fun c => absurd (by decide) c)
  refine lv_iinc (v := 5) (lv' := [(4, .int 5), (3, .int 0), (0, .ref h0), (1, .int 0), (2, .int 1)]) hx hb dX7_bagsWith_39 hl (k := 0) rfl (by decide) (by decide) rfl (fun ls hl => ?_)
  refine lv_goto (tgt := 5) hx hb dX7_bagsWith_42 (by decide) ?_
  refine lv_iload hx hb dX7_bagsWith_5 (lv_at hl 0 rfl) ?_
  refine lv_bipush (v := 8) hx hb dX7_bagsWith_7 (by decide) ?_
  refine lv_icmp_ge (tgt := 45) hx hb dX7_bagsWith_9 (by decide) (fun c => absurd c (by decide)) (fun _ => ?_)
  refine lv_aload_n hx hb dX7_bagsWith_12 rfl (lv_at hl 2 rfl) ?_
  refine lv_iload hx hb dX7_bagsWith_13 (lv_at hl 0 rfl) ?_
  have hPc := hP.sub (ws' := [(h0, .inr (7, [.ref h1, .ref r0, .int 0, .int 0])), (h1, .inl (g0, 58, .inl (fun _ => 0)))]) [0, 1] rfl
  have hDc := hD.sub (ws' := [(h0, .inr (7, [.ref h1, .ref r0, .int 0, .int 0])), (h1, .inl (g0, 58, .inl (fun _ => 0)))]) [0, 1] (by decide) rfl
  have hKc := hK.sub (tys' := [(g0, .int)]) [0] rfl
  have hFc := va_free (wc := [(h0, .inr (7, [.ref h1, .ref r0, .int 0, .int 0])), (h1, .inl (g0, 58, .inl (fun _ => 0)))]) hD hS hA [0, 1] rfl
  refine va_calli (va_runV (As := [.int 5]) (rest := []) ⟨hx, hb, hml, hown, hts⟩ (k_X7_has_6 l dC dI g0 h0 h1 r0  H.size) (cwV 1 hts g_X7_bagsWith_5 rfl rfl rfl (by decide +kernel) ⟨Nat.le_of_ble_eq_true rfl, Nat.le_of_ble_eq_true rfl⟩) ⟨fun a U g mk q => by obtain ⟨q0, q1, qP, qK, qD⟩ := q; exact ⟨q0, q1, qP, va_K.moved (u := U) (U := U.calling g mk a) (Vm.Alike.refl U.vm) qK, qD⟩, va_recv hKc hPc (ci := 7) (q0 := 0) rfl rfl, fun U hU hW => ⟨rfl, by rw [hU], by rw [hU]; exact hPc, va_K.moved hW.alike hKc, hDc.weaken (fun _ _ _ _ => trivial)⟩⟩ rfl rfl hl.1 rfl (lv_room (Nat.le_of_ble_eq_true rfl)) dX7_bagsWith_15 ⟨Nat.le_of_ble_eq_true rfl, Nat.le_of_ble_eq_true rfl⟩) hS (fun q _ h => hFc q h) hFc (fun ra6 u t H1 locs ht hvm hw hB hz1 hk1 hS => ?_)
  obtain ⟨hP1, hK1, hD1⟩ := hB
  rw [ht] at hP1
  obtain ⟨hP, hD⟩ := va_join (wr := []) (w1 := [(h0, .inr (7, [.ref h1, .ref r0, .int 0, .int 0])), (h1, .inl (g0, 58, .inl (fun _ => 0)))]) hP hD [0, 1] [] rfl rfl (by decide) (by decide) hk1 hFc hP1 hD1
  generalize H1 = H at hP hS ⊢
  have hP : va_P (dC, dI) vwCl [(h0, .inr (7, [.ref h1, .ref r0, .int 0, .int 0])), (h1, .inl (g0, 58, .inl (fun _ => 0)))] H := hP
  have hD : va_D A [(h0, .inr (7, [.ref h1, .ref r0, .int 0, .int 0])), (h1, .inl (g0, 58, .inl (fun _ => 0)))] := hD
  obtain rfl : ra6 = (0 : Int32) := hw
  refine lv_if_eq (tgt := 39) hx hb dX7_bagsWith_18 (by decide) (fun _ => ?_) (fun c => absurd (by decide) c)
  refine lv_iinc (v := 6) (lv' := [(4, .int 6), (3, .int 0), (0, .ref h0), (1, .int 0), (2, .int 1)]) hx hb dX7_bagsWith_39 hl (k := 0) rfl (by decide) (by decide) rfl (fun ls hl => ?_)
  refine lv_goto (tgt := 5) hx hb dX7_bagsWith_42 (by decide) ?_
  refine lv_iload hx hb dX7_bagsWith_5 (lv_at hl 0 rfl) ?_
  refine lv_bipush (v := 8) hx hb dX7_bagsWith_7 (by decide) ?_
  refine lv_icmp_ge (tgt := 45) hx hb dX7_bagsWith_9 (by decide) (fun c => absurd c (by decide)) (fun _ => ?_)
  refine lv_aload_n hx hb dX7_bagsWith_12 rfl (lv_at hl 2 rfl) ?_
  refine lv_iload hx hb dX7_bagsWith_13 (lv_at hl 0 rfl) ?_
  have hPc := hP.sub (ws' := [(h0, .inr (7, [.ref h1, .ref r0, .int 0, .int 0])), (h1, .inl (g0, 58, .inl (fun _ => 0)))]) [0, 1] rfl
  have hDc := hD.sub (ws' := [(h0, .inr (7, [.ref h1, .ref r0, .int 0, .int 0])), (h1, .inl (g0, 58, .inl (fun _ => 0)))]) [0, 1] (by decide) rfl
  have hKc := hK.sub (tys' := [(g0, .int)]) [0] rfl
  have hFc := va_free (wc := [(h0, .inr (7, [.ref h1, .ref r0, .int 0, .int 0])), (h1, .inl (g0, 58, .inl (fun _ => 0)))]) hD hS hA [0, 1] rfl
  refine va_calli (va_runV (As := [.int 6]) (rest := []) ⟨hx, hb, hml, hown, hts⟩ (k_X7_has_7 l dC dI g0 h0 h1 r0  H.size) (cwV 1 hts g_X7_bagsWith_6 rfl rfl rfl (by decide +kernel) ⟨Nat.le_of_ble_eq_true rfl, Nat.le_of_ble_eq_true rfl⟩) ⟨fun a U g mk q => by obtain ⟨q0, q1, qP, qK, qD⟩ := q; exact ⟨q0, q1, qP, va_K.moved (u := U) (U := U.calling g mk a) (Vm.Alike.refl U.vm) qK, qD⟩, va_recv hKc hPc (ci := 7) (q0 := 0) rfl rfl, fun U hU hW => ⟨rfl, by rw [hU], by rw [hU]; exact hPc, va_K.moved hW.alike hKc, hDc.weaken (fun _ _ _ _ => trivial)⟩⟩ rfl rfl hl.1 rfl (lv_room (Nat.le_of_ble_eq_true rfl)) dX7_bagsWith_15 ⟨Nat.le_of_ble_eq_true rfl, Nat.le_of_ble_eq_true rfl⟩) hS (fun q _ h => hFc q h) hFc (fun ra7 u t H1 locs ht hvm hw hB hz1 hk1 hS => ?_)
  obtain ⟨hP1, hK1, hD1⟩ := hB
  rw [ht] at hP1
  obtain ⟨hP, hD⟩ := va_join (wr := []) (w1 := [(h0, .inr (7, [.ref h1, .ref r0, .int 0, .int 0])), (h1, .inl (g0, 58, .inl (fun _ => 0)))]) hP hD [0, 1] [] rfl rfl (by decide) (by decide) hk1 hFc hP1 hD1
  generalize H1 = H at hP hS ⊢
  have hP : va_P (dC, dI) vwCl [(h0, .inr (7, [.ref h1, .ref r0, .int 0, .int 0])), (h1, .inl (g0, 58, .inl (fun _ => 0)))] H := hP
  have hD : va_D A [(h0, .inr (7, [.ref h1, .ref r0, .int 0, .int 0])), (h1, .inl (g0, 58, .inl (fun _ => 0)))] := hD
  obtain rfl : ra7 = (0 : Int32) := hw
  refine lv_if_eq (tgt := 39) hx hb dX7_bagsWith_18 (by decide) (fun _ => ?_) (fun c => absurd (by decide) c)
  refine lv_iinc (v := 7) (lv' := [(4, .int 7), (3, .int 0), (0, .ref h0), (1, .int 0), (2, .int 1)]) hx hb dX7_bagsWith_39 hl (k := 0) rfl (by decide) (by decide) rfl (fun ls hl => ?_)
  refine lv_goto (tgt := 5) hx hb dX7_bagsWith_42 (by decide) ?_
  refine lv_iload hx hb dX7_bagsWith_5 (lv_at hl 0 rfl) ?_
  refine lv_bipush (v := 8) hx hb dX7_bagsWith_7 (by decide) ?_
  refine lv_icmp_ge (tgt := 45) hx hb dX7_bagsWith_9 (by decide) (fun c => absurd c (by decide)) (fun _ => ?_)
  refine lv_aload_n hx hb dX7_bagsWith_12 rfl (lv_at hl 2 rfl) ?_
  refine lv_iload hx hb dX7_bagsWith_13 (lv_at hl 0 rfl) ?_
  have hPc := hP.sub (ws' := [(h0, .inr (7, [.ref h1, .ref r0, .int 0, .int 0])), (h1, .inl (g0, 58, .inl (fun _ => 0)))]) [0, 1] rfl
  have hDc := hD.sub (ws' := [(h0, .inr (7, [.ref h1, .ref r0, .int 0, .int 0])), (h1, .inl (g0, 58, .inl (fun _ => 0)))]) [0, 1] (by decide) rfl
  have hKc := hK.sub (tys' := [(g0, .int)]) [0] rfl
  have hFc := va_free (wc := [(h0, .inr (7, [.ref h1, .ref r0, .int 0, .int 0])), (h1, .inl (g0, 58, .inl (fun _ => 0)))]) hD hS hA [0, 1] rfl
  refine va_calli (va_runV (As := [.int 7]) (rest := []) ⟨hx, hb, hml, hown, hts⟩ (k_X7_has_8 l dC dI g0 h0 h1 r0  H.size) (cwV 1 hts g_X7_bagsWith_7 rfl rfl rfl (by decide +kernel) ⟨Nat.le_of_ble_eq_true rfl, Nat.le_of_ble_eq_true rfl⟩) ⟨fun a U g mk q => by obtain ⟨q0, q1, qP, qK, qD⟩ := q; exact ⟨q0, q1, qP, va_K.moved (u := U) (U := U.calling g mk a) (Vm.Alike.refl U.vm) qK, qD⟩, va_recv hKc hPc (ci := 7) (q0 := 0) rfl rfl, fun U hU hW => ⟨rfl, by rw [hU], by rw [hU]; exact hPc, va_K.moved hW.alike hKc, hDc.weaken (fun _ _ _ _ => trivial)⟩⟩ rfl rfl hl.1 rfl (lv_room (Nat.le_of_ble_eq_true rfl)) dX7_bagsWith_15 ⟨Nat.le_of_ble_eq_true rfl, Nat.le_of_ble_eq_true rfl⟩) hS (fun q _ h => hFc q h) hFc (fun ra8 u t H1 locs ht hvm hw hB hz1 hk1 hS => ?_)
  obtain ⟨hP1, hK1, hD1⟩ := hB
  rw [ht] at hP1
  obtain ⟨hP, hD⟩ := va_join (wr := []) (w1 := [(h0, .inr (7, [.ref h1, .ref r0, .int 0, .int 0])), (h1, .inl (g0, 58, .inl (fun _ => 0)))]) hP hD [0, 1] [] rfl rfl (by decide) (by decide) hk1 hFc hP1 hD1
  generalize H1 = H at hP hS ⊢
  have hP : va_P (dC, dI) vwCl [(h0, .inr (7, [.ref h1, .ref r0, .int 0, .int 0])), (h1, .inl (g0, 58, .inl (fun _ => 0)))] H := hP
  have hD : va_D A [(h0, .inr (7, [.ref h1, .ref r0, .int 0, .int 0])), (h1, .inl (g0, 58, .inl (fun _ => 0)))] := hD
  obtain rfl : ra8 = (0 : Int32) := hw
  refine lv_if_eq (tgt := 39) hx hb dX7_bagsWith_18 (by decide) (fun _ => ?_) (fun c => absurd (by decide) c)
  refine lv_iinc (v := 8) (lv' := [(4, .int 8), (3, .int 0), (0, .ref h0), (1, .int 0), (2, .int 1)]) hx hb dX7_bagsWith_39 hl (k := 0) rfl (by decide) (by decide) rfl (fun ls hl => ?_)
  refine lv_goto (tgt := 5) hx hb dX7_bagsWith_42 (by decide) ?_
  refine lv_iload hx hb dX7_bagsWith_5 (lv_at hl 0 rfl) ?_
  refine lv_bipush (v := 8) hx hb dX7_bagsWith_7 (by decide) ?_
  refine lv_icmp_ge (tgt := 45) hx hb dX7_bagsWith_9 (by decide) (fun _ => ?_) (fun c => absurd (by decide) c)
  refine lv_iload_n hx hb dX7_bagsWith_45 rfl (lv_at hl 1 rfl) ?_
  have hP9 := hP.sub (ws' := [(h0, .inr (7, [.ref h1, .ref r0, .int 0, .int 0])), (h1, .inl (g0, 58, .inl (fun _ => 0)))]) [0, 1] rfl
  have hD9 := hD.sub (ws' := [(h0, .inr (7, [.ref h1, .ref r0, .int 0, .int 0])), (h1, .inl (g0, 58, .inl (fun _ => 0)))]) [0, 1] (by decide) rfl
  have hK9 := hK.sub (tys' := [(g0, .int)]) [0] rfl
  exact W.iret (v := 0) hx hb hr (fun t ht hW => ⟨⟨0, (), rfl, rfl, by rw [ht]; exact hP9, va_K.moved hW.alike hK9, hD9⟩, hS.F ht⟩) hS.2.2 dX7_bagsWith_46
def q_X7_bags : List Cond := .code yX7_bags cX7_bags 1 (some .int) :: (([.code yX7_bagsWith cX7_bagsWith 5 (some .int), .code yX7_has cX7_has 2 (some .boolean), .fieldLink RX7 11 "LeftArguments$Room" "cells" "[I", .initialized RX7, .instanceMethod yX7_has, .selects RX7 yX7_has yX7_has, .methodLink RX7 70 yX7_has, .instanceMethod yX7_bagsWith, .selects RX7 yX7_bagsWith yX7_bagsWith, .methodLink RX7 77 yX7_bagsWith] : List Cond) ++ wsX70)
set_option maxRecDepth 20000 in
theorem g_X7_bags_0 : GoodIn q_X7_bags (wsV RX7 77 RX7 yX7_bagsWith q_X7_bagsWith) := goodIn_app (goodIn_r _ [10, 8, 9, 4] (by decide +kernel) (by decide +kernel)) (goodIn_ca (goodIn_r (.code yX7_bagsWith cX7_bagsWith 5 (some .int) :: [.code yX7_has cX7_has 2 (some .boolean), .fieldLink RX7 11 "LeftArguments$Room" "cells" "[I", .initialized RX7, .instanceMethod yX7_has, .selects RX7 yX7_has yX7_has, .methodLink RX7 70 yX7_has]) [1, 2, 3, 4, 5, 6, 7] (by decide +kernel) (by decide +kernel)) (goodIn_sub (fun _ h => List.mem_cons_of_mem _ (List.mem_append_right _ h)) gwX7))
set_option maxHeartbeats 4000000 in
set_option maxRecDepth 100000 in
theorem k_X7_bags (l : Launch) (dC : Nat → ClassId) (dI : Nat → Nat → Nat) (g0 : ClassId) (h0 h1 : Nat) (r0 : Nat) (sz : Nat) : Met l yX7_bags q_X7_bags ({ frames := 2, cells := 0, slots := 0, locals := 45 }) (va_Pc [.ref h0] (fun U => U.heap.size = sz ∧ va_P (dC, dI) vwCl [(h0, .inr (7, [.ref h1, .ref r0, .int 0, .int 0])), (h1, .inl (g0, 58, .inl (fun _ => 0)))] U.heap ∧ va_K (dC, dI) vwCl [(g0, .int)] U ∧ va_D (fun _ => True) [(h0, .inr (7, [.ref h1, .ref r0, .int 0, .int 0])), (h1, .inl (g0, 58, .inl (fun _ => 0)))])) (va_Qi (fun (r : Int32) (_ : Unit) => r = 0) (fun (_ : Unit) (t : State) => va_P (dC, dI) vwCl [(h0, .inr (7, [.ref h1, .ref r0, .int 0, .int 0])), (h1, .inl (g0, 58, .inl (fun _ => 0)))] t.heap ∧ va_K (dC, dI) vwCl [(g0, .int)] t ∧ va_D (va_A [(h0, .inr (7, [.ref h1, .ref r0, .int 0, .int 0])), (h1, .inl (g0, 58, .inl (fun _ => 0)))] sz) [(h0, .inr (7, [.ref h1, .ref r0, .int 0, .int 0])), (h1, .inl (g0, 58, .inl (fun _ => 0)))]) (va_A [(h0, .inr (7, [.ref h1, .ref r0, .int 0, .int 0])), (h1, .inl (g0, 58, .inl (fun _ => 0)))] sz)) 0 0 (va_A [(h0, .inr (7, [.ref h1, .ref r0, .int 0, .int 0])), (h1, .inl (g0, 58, .inl (fun _ => 0)))] sz) := by
  refine Met.ofW (cc := cX7_bags) (maxL := 1) (ret := (some .int)) (by decide) rfl ?_
  intro p e s m args below meth c s₁ B hml hv
  obtain ⟨rfl, hsz, hP, hK, hD0⟩ := hv
  have hx := B.exec
  have hb := B.bytes
  have hr := B.returns
  have hts := atoms_spec (ws := q_X7_bags) B.pre
  have hown : s.vm.findClass RX7 = some m.cls := findClass_of_methodNamed B.named
  have hlocks := B.notSynchronized
  subst hsz
  have hD := hD0.self (sz := s.heap.size)
  generalize hAe : va_A [(h0, .inr (7, [.ref h1, .ref r0, .int 0, .int 0])), (h1, .inl (g0, 58, .inl (fun _ => 0)))] s.heap.size = A at hD ⊢
  have hA : ∀ q : Nat, s.heap.size ≤ q → A q := fun q h => by rw [← hAe]; exact Or.inr h
  have hS : va_S A s.heap s.heap [] := va_S.rf
  have hl := lv_entry ([.ref h0]) (n := 1) (Nat.le_of_ble_eq_true rfl)
  rw [lg_entry_eq]
  generalize (lg_sl ([.ref h0]) ++ List.replicate (1 - (lg_sl ([.ref h0])).length) Slot.unset).toArray = ls at hl ⊢
  have hl : lv_has ls 1 [(0, .ref h0)] := hl
  refine lv_aload_n hx hb dX7_bags_0 rfl (lv_at hl 0 rfl) ?_
  refine lv_iconst (v := 0) hx hb dX7_bags_1 (by decide) ?_
  refine lv_iconst (v := 1) hx hb dX7_bags_2 (by decide) ?_
  have hPc := hP.sub (ws' := [(h0, .inr (7, [.ref h1, .ref r0, .int 0, .int 0])), (h1, .inl (g0, 58, .inl (fun _ => 0)))]) [0, 1] rfl
  have hDc := hD.sub (ws' := [(h0, .inr (7, [.ref h1, .ref r0, .int 0, .int 0])), (h1, .inl (g0, 58, .inl (fun _ => 0)))]) [0, 1] (by decide) rfl
  have hKc := hK.sub (tys' := [(g0, .int)]) [0] rfl
  have hFc := va_free (wc := [(h0, .inr (7, [.ref h1, .ref r0, .int 0, .int 0])), (h1, .inl (g0, 58, .inl (fun _ => 0)))]) hD hS hA [0, 1] rfl
  refine va_calli (va_runV (As := [.int 0, .int 1]) (rest := []) ⟨hx, hb, hml, hown, hts⟩ (k_X7_bagsWith l dC dI g0 h0 h1 r0  s.heap.size) (cwV 2 hts g_X7_bags_0 rfl rfl rfl (by decide +kernel) ⟨Nat.le_of_ble_eq_true rfl, Nat.le_of_ble_eq_true rfl⟩) ⟨fun a U g mk q => by obtain ⟨q0, q1, qP, qK, qD⟩ := q; exact ⟨q0, q1, qP, va_K.moved (u := U) (U := U.calling g mk a) (Vm.Alike.refl U.vm) qK, qD⟩, va_recv hKc hPc (ci := 7) (q0 := 0) rfl rfl, fun U hU hW => ⟨rfl, by rw [hU], by rw [hU]; exact hPc, va_K.moved hW.alike hKc, hDc.weaken (fun _ _ _ _ => trivial)⟩⟩ rfl rfl hl.1 rfl (lv_room (Nat.le_of_ble_eq_true rfl)) dX7_bags_3 ⟨Nat.le_of_ble_eq_true rfl, Nat.le_of_ble_eq_true rfl⟩) hS (fun q _ h => hFc q h) hFc (fun ra1 u t H1 locs ht hvm hw hB hz1 hk1 hS => ?_)
  obtain ⟨hP1, hK1, hD1⟩ := hB
  rw [ht] at hP1
  obtain ⟨hP, hD⟩ := va_join (wr := []) (w1 := [(h0, .inr (7, [.ref h1, .ref r0, .int 0, .int 0])), (h1, .inl (g0, 58, .inl (fun _ => 0)))]) hP hD [0, 1] [] rfl rfl (by decide) (by decide) hk1 hFc hP1 hD1
  generalize H1 = H at hP hS ⊢
  have hP : va_P (dC, dI) vwCl [(h0, .inr (7, [.ref h1, .ref r0, .int 0, .int 0])), (h1, .inl (g0, 58, .inl (fun _ => 0)))] H := hP
  have hD : va_D A [(h0, .inr (7, [.ref h1, .ref r0, .int 0, .int 0])), (h1, .inl (g0, 58, .inl (fun _ => 0)))] := hD
  obtain rfl : ra1 = (0 : Int32) := hw
  have hP9 := hP.sub (ws' := [(h0, .inr (7, [.ref h1, .ref r0, .int 0, .int 0])), (h1, .inl (g0, 58, .inl (fun _ => 0)))]) [0, 1] rfl
  have hD9 := hD.sub (ws' := [(h0, .inr (7, [.ref h1, .ref r0, .int 0, .int 0])), (h1, .inl (g0, 58, .inl (fun _ => 0)))]) [0, 1] (by decide) rfl
  have hK9 := hK.sub (tys' := [(g0, .int)]) [0] rfl
  exact W.iret (v := 0) hx hb hr (fun t ht hW => ⟨⟨0, (), rfl, rfl, by rw [ht]; exact hP9, va_K.moved hW.alike hK9, hD9⟩, hS.F ht⟩) hS.2.2 dX7_bags_6
def q_J6_bitCount_0f7a4 : List Cond := .code yJ6_bitCount_0f7a4 cJ6_bitCount_0f7a4 1 (some .int) :: (([.constant RJ6 265 (1431655765), .constant RJ6 266 (858993459), .constant RJ6 267 (252645135)] : List Cond))
set_option maxHeartbeats 4000000 in
set_option maxRecDepth 100000 in
theorem k_J6_bitCount_0f7a4 (l : Launch) (dC : Nat → ClassId) (dI : Nat → Nat → Nat)  (sz : Nat) : Met l yJ6_bitCount_0f7a4 q_J6_bitCount_0f7a4 ({ frames := 0, cells := 0, slots := 0, locals := 0 }) (va_Pc [.int 0] (fun U => U.heap.size = sz ∧ va_P (dC, dI) vwCl [] U.heap ∧ va_K (dC, dI) vwCl [] U ∧ va_D (fun _ => True) [])) (va_Qi (fun (r : Int32) (_ : Unit) => r = 0) (fun (_ : Unit) (t : State) => va_P (dC, dI) vwCl [] t.heap ∧ va_K (dC, dI) vwCl [] t ∧ va_D (va_A [] sz) []) (va_A [] sz)) 0 0 (va_A [] sz) := by
  refine Met.ofW (cc := cJ6_bitCount_0f7a4) (maxL := 1) (ret := (some .int)) (by decide) rfl ?_
  intro p e s m args below meth c s₁ B hml hv
  obtain ⟨rfl, hsz, hP, hK, hD0⟩ := hv
  have hx := B.exec
  have hb := B.bytes
  have hr := B.returns
  have hts := atoms_spec (ws := q_J6_bitCount_0f7a4) B.pre
  have hown : s.vm.findClass RJ6 = some m.cls := findClass_of_methodNamed B.named
  have hlocks := B.notSynchronized
  subst hsz
  have hD := hD0.self (sz := s.heap.size)
  generalize hAe : va_A [] s.heap.size = A at hD ⊢
  have hA : ∀ q : Nat, s.heap.size ≤ q → A q := fun q h => by rw [← hAe]; exact Or.inr h
  have hS : va_S A s.heap s.heap [] := va_S.rf
  have hl := lv_entry ([.int 0]) (n := 1) (Nat.le_of_ble_eq_true rfl)
  rw [lg_entry_eq]
  generalize (lg_sl ([.int 0]) ++ List.replicate (1 - (lg_sl ([.int 0])).length) Slot.unset).toArray = ls at hl ⊢
  have hl : lv_has ls 1 [(0, .int 0)] := hl
  refine lv_iload_n hx hb dJ6_bitCount_0f7a4_0 rfl (lv_at hl 0 rfl) ?_
  refine lv_iload_n hx hb dJ6_bitCount_0f7a4_1 rfl (lv_at hl 0 rfl) ?_
  refine lv_iconst (v := 1) hx hb dJ6_bitCount_0f7a4_2 (by decide) ?_
  refine lv_iushr (v := 0) hx hb dJ6_bitCount_0f7a4_3 (by decide) ?_
  refine lv_ldcw (v := 1431655765) hx hb hown (hts (.constant RJ6 265 (1431655765)) (List.mem_cons_of_mem _ (List.mem_of_getElem? (i := 0) rfl))) dJ6_bitCount_0f7a4_4 ?_
  refine lv_iand hx hb dJ6_bitCount_0f7a4_7 ?_
  refine lv_topi (fun tv1 etv1 => ?_)
  obtain rfl : tv1 = (0 : Int32) := etv1.trans (by first | rfl | decide)
  refine lv_isub hx hb dJ6_bitCount_0f7a4_8 ?_
  refine lv_topi (fun tv2 etv2 => ?_)
  obtain rfl : tv2 = (0 : Int32) := etv2.trans (by first | rfl | decide)
  refine lv_istore_n (lv' := [(0, .int 0)]) hx hb dJ6_bitCount_0f7a4_9 rfl hl (by decide) rfl (fun ls hl => ?_)
  refine lv_iload_n hx hb dJ6_bitCount_0f7a4_10 rfl (lv_at hl 0 rfl) ?_
  refine lv_ldcw (v := 858993459) hx hb hown (hts (.constant RJ6 266 (858993459)) (List.mem_cons_of_mem _ (List.mem_of_getElem? (i := 1) rfl))) dJ6_bitCount_0f7a4_11 ?_
  refine lv_iand hx hb dJ6_bitCount_0f7a4_14 ?_
  refine lv_topi (fun tv3 etv3 => ?_)
  obtain rfl : tv3 = (0 : Int32) := etv3.trans (by first | rfl | decide)
  refine lv_iload_n hx hb dJ6_bitCount_0f7a4_15 rfl (lv_at hl 0 rfl) ?_
  refine lv_iconst (v := 2) hx hb dJ6_bitCount_0f7a4_16 (by decide) ?_
  refine lv_iushr (v := 0) hx hb dJ6_bitCount_0f7a4_17 (by decide) ?_
  refine lv_ldcw (v := 858993459) hx hb hown (hts (.constant RJ6 266 (858993459)) (List.mem_cons_of_mem _ (List.mem_of_getElem? (i := 1) rfl))) dJ6_bitCount_0f7a4_18 ?_
  refine lv_iand hx hb dJ6_bitCount_0f7a4_21 ?_
  refine lv_topi (fun tv4 etv4 => ?_)
  obtain rfl : tv4 = (0 : Int32) := etv4.trans (by first | rfl | decide)
  refine lv_iadd hx hb dJ6_bitCount_0f7a4_22 ?_
  refine lv_topi (fun tv5 etv5 => ?_)
  obtain rfl : tv5 = (0 : Int32) := etv5.trans (by first | rfl | decide)
  refine lv_istore_n (lv' := [(0, .int 0)]) hx hb dJ6_bitCount_0f7a4_23 rfl hl (by decide) rfl (fun ls hl => ?_)
  refine lv_iload_n hx hb dJ6_bitCount_0f7a4_24 rfl (lv_at hl 0 rfl) ?_
  refine lv_iload_n hx hb dJ6_bitCount_0f7a4_25 rfl (lv_at hl 0 rfl) ?_
  refine lv_iconst (v := 4) hx hb dJ6_bitCount_0f7a4_26 (by decide) ?_
  refine lv_iushr (v := 0) hx hb dJ6_bitCount_0f7a4_27 (by decide) ?_
  refine lv_iadd hx hb dJ6_bitCount_0f7a4_28 ?_
  refine lv_topi (fun tv6 etv6 => ?_)
  obtain rfl : tv6 = (0 : Int32) := etv6.trans (by first | rfl | decide)
  refine lv_ldcw (v := 252645135) hx hb hown (hts (.constant RJ6 267 (252645135)) (List.mem_cons_of_mem _ (List.mem_of_getElem? (i := 2) rfl))) dJ6_bitCount_0f7a4_29 ?_
  refine lv_iand hx hb dJ6_bitCount_0f7a4_32 ?_
  refine lv_topi (fun tv7 etv7 => ?_)
  obtain rfl : tv7 = (0 : Int32) := etv7.trans (by first | rfl | decide)
  refine lv_istore_n (lv' := [(0, .int 0)]) hx hb dJ6_bitCount_0f7a4_33 rfl hl (by decide) rfl (fun ls hl => ?_)
  refine lv_iload_n hx hb dJ6_bitCount_0f7a4_34 rfl (lv_at hl 0 rfl) ?_
  refine lv_iload_n hx hb dJ6_bitCount_0f7a4_35 rfl (lv_at hl 0 rfl) ?_
  refine lv_bipush (v := 8) hx hb dJ6_bitCount_0f7a4_36 (by decide) ?_
  refine lv_iushr (v := 0) hx hb dJ6_bitCount_0f7a4_38 (by decide) ?_
  refine lv_iadd hx hb dJ6_bitCount_0f7a4_39 ?_
  refine lv_topi (fun tv8 etv8 => ?_)
  obtain rfl : tv8 = (0 : Int32) := etv8.trans (by first | rfl | decide)
  refine lv_istore_n (lv' := [(0, .int 0)]) hx hb dJ6_bitCount_0f7a4_40 rfl hl (by decide) rfl (fun ls hl => ?_)
  refine lv_iload_n hx hb dJ6_bitCount_0f7a4_41 rfl (lv_at hl 0 rfl) ?_
  refine lv_iload_n hx hb dJ6_bitCount_0f7a4_42 rfl (lv_at hl 0 rfl) ?_
  refine lv_bipush (v := 16) hx hb dJ6_bitCount_0f7a4_43 (by decide) ?_
  refine lv_iushr (v := 0) hx hb dJ6_bitCount_0f7a4_45 (by decide) ?_
  refine lv_iadd hx hb dJ6_bitCount_0f7a4_46 ?_
  refine lv_topi (fun tv9 etv9 => ?_)
  obtain rfl : tv9 = (0 : Int32) := etv9.trans (by first | rfl | decide)
  refine lv_istore_n (lv' := [(0, .int 0)]) hx hb dJ6_bitCount_0f7a4_47 rfl hl (by decide) rfl (fun ls hl => ?_)
  refine lv_iload_n hx hb dJ6_bitCount_0f7a4_48 rfl (lv_at hl 0 rfl) ?_
  refine lv_bipush (v := 63) hx hb dJ6_bitCount_0f7a4_49 (by decide) ?_
  refine lv_iand hx hb dJ6_bitCount_0f7a4_51 ?_
  refine lv_topi (fun tv10 etv10 => ?_)
  obtain rfl : tv10 = (0 : Int32) := etv10.trans (by first | rfl | decide)
  have hP9 := hP.sub (ws' := []) [] rfl
  have hD9 := hD.sub (ws' := []) [] (by decide) rfl
  have hK9 := hK.sub (tys' := []) [] rfl
  exact W.iret (v := 0) hx hb hr (fun t ht hW => ⟨⟨0, (), rfl, rfl, by rw [ht]; exact hP9, va_K.moved hW.alike hK9, hD9⟩, hS.F ht⟩) hS.2.2 dJ6_bitCount_0f7a4_52
def q_X4_chosen : List Cond := .code yX4_chosen cX4_chosen 1 (some .int) :: (([.fieldLink RX4 32 "LeftArguments$Laws" "chosen" "I"] : List Cond) ++ wsX40)
set_option maxHeartbeats 4000000 in
set_option maxRecDepth 100000 in
theorem k_X4_chosen (l : Launch) (dC : Nat → ClassId) (dI : Nat → Nat → Nat) (h0 : Nat) (r0 r1 r2 r3 : Nat) (sz : Nat) : Met l yX4_chosen q_X4_chosen ({ frames := 0, cells := 0, slots := 0, locals := 0 }) (va_Pc [.ref h0] (fun U => U.heap.size = sz ∧ va_P (dC, dI) vwCl [(h0, .inr (4, [.ref r0, .ref r1, .ref r2, .ref r3, .int 0, .int (-1)]))] U.heap ∧ va_K (dC, dI) vwCl [] U ∧ va_D (fun _ => True) [(h0, .inr (4, [.ref r0, .ref r1, .ref r2, .ref r3, .int 0, .int (-1)]))])) (va_Qi (fun (r : Int32) (_ : Unit) => r = (-1)) (fun (_ : Unit) (t : State) => va_P (dC, dI) vwCl [(h0, .inr (4, [.ref r0, .ref r1, .ref r2, .ref r3, .int 0, .int (-1)]))] t.heap ∧ va_K (dC, dI) vwCl [] t ∧ va_D (va_A [(h0, .inr (4, [.ref r0, .ref r1, .ref r2, .ref r3, .int 0, .int (-1)]))] sz) [(h0, .inr (4, [.ref r0, .ref r1, .ref r2, .ref r3, .int 0, .int (-1)]))]) (va_A [(h0, .inr (4, [.ref r0, .ref r1, .ref r2, .ref r3, .int 0, .int (-1)]))] sz)) 0 0 (va_A [(h0, .inr (4, [.ref r0, .ref r1, .ref r2, .ref r3, .int 0, .int (-1)]))] sz) := by
  refine Met.ofW (cc := cX4_chosen) (maxL := 1) (ret := (some .int)) (by decide) rfl ?_
  intro p e s m args below meth c s₁ B hml hv
  obtain ⟨rfl, hsz, hP, hK, hD0⟩ := hv
  have hx := B.exec
  have hb := B.bytes
  have hr := B.returns
  have hts := atoms_spec (ws := q_X4_chosen) B.pre
  have hown : s.vm.findClass RX4 = some m.cls := findClass_of_methodNamed B.named
  have hlocks := B.notSynchronized
  subst hsz
  have hD := hD0.self (sz := s.heap.size)
  generalize hAe : va_A [(h0, .inr (4, [.ref r0, .ref r1, .ref r2, .ref r3, .int 0, .int (-1)]))] s.heap.size = A at hD ⊢
  have hA : ∀ q : Nat, s.heap.size ≤ q → A q := fun q h => by rw [← hAe]; exact Or.inr h
  have hS : va_S A s.heap s.heap [] := va_S.rf
  have hl := lv_entry ([.ref h0]) (n := 1) (Nat.le_of_ble_eq_true rfl)
  rw [lg_entry_eq]
  generalize (lg_sl ([.ref h0]) ++ List.replicate (1 - (lg_sl ([.ref h0])).length) Slot.unset).toArray = ls at hl ⊢
  have hl : lv_has ls 1 [(0, .ref h0)] := hl
  refine lv_aload_n hx hb dX4_chosen_0 rfl (lv_at hl 0 rfl) ?_
  refine va_get (D := (dC, dI)) (ci := 4) (v := .int (-1)) (C := RX4) (T := TX4) (N := 6) hx hb hts (fun _ h => List.mem_cons_of_mem _ (List.mem_append_right _ h)) hown hK hP 0 rfl rfl 5 (by decide) (hts (.fieldLink RX4 32 "LeftArguments$Laws" "chosen" "I") (List.mem_cons_of_mem _ (List.mem_append_left _ (List.mem_of_getElem? (i := 0) rfl)))) (fun _ h9 => h9) rfl dX4_chosen_1 ?_
  have hP9 := hP.sub (ws' := [(h0, .inr (4, [.ref r0, .ref r1, .ref r2, .ref r3, .int 0, .int (-1)]))]) [0] rfl
  have hD9 := hD.sub (ws' := [(h0, .inr (4, [.ref r0, .ref r1, .ref r2, .ref r3, .int 0, .int (-1)]))]) [0] (by decide) rfl
  have hK9 := hK.sub (tys' := []) [] rfl
  exact W.iret (v := (-1)) hx hb hr (fun t ht hW => ⟨⟨(-1), (), rfl, rfl, by rw [ht]; exact hP9, va_K.moved hW.alike hK9, hD9⟩, hS.F ht⟩) hS.2.2 dX4_chosen_4
def q_X9_number : List Cond := .code yX9_number cX9_number 1 (some .int) :: (([.fieldLink RX9 35 "LeftArguments$Sightings" "number" "I"] : List Cond) ++ wsX90)
set_option maxHeartbeats 4000000 in
set_option maxRecDepth 100000 in
theorem k_X9_number (l : Launch) (dC : Nat → ClassId) (dI : Nat → Nat → Nat) (h0 : Nat) (r0 r1 r2 r3 r4 r5 r6 r7 : Nat) (sz : Nat) : Met l yX9_number q_X9_number ({ frames := 0, cells := 0, slots := 0, locals := 0 }) (va_Pc [.ref h0] (fun U => U.heap.size = sz ∧ va_P (dC, dI) vwCl [(h0, .inr (9, [.ref r0, .ref r1, .ref r2, .ref r3, .ref r4, .ref r5, .ref r6, .ref r7, .int 0]))] U.heap ∧ va_K (dC, dI) vwCl [] U ∧ va_D (fun _ => True) [(h0, .inr (9, [.ref r0, .ref r1, .ref r2, .ref r3, .ref r4, .ref r5, .ref r6, .ref r7, .int 0]))])) (va_Qi (fun (r : Int32) (_ : Unit) => r = 0) (fun (_ : Unit) (t : State) => va_P (dC, dI) vwCl [(h0, .inr (9, [.ref r0, .ref r1, .ref r2, .ref r3, .ref r4, .ref r5, .ref r6, .ref r7, .int 0]))] t.heap ∧ va_K (dC, dI) vwCl [] t ∧ va_D (va_A [(h0, .inr (9, [.ref r0, .ref r1, .ref r2, .ref r3, .ref r4, .ref r5, .ref r6, .ref r7, .int 0]))] sz) [(h0, .inr (9, [.ref r0, .ref r1, .ref r2, .ref r3, .ref r4, .ref r5, .ref r6, .ref r7, .int 0]))]) (va_A [(h0, .inr (9, [.ref r0, .ref r1, .ref r2, .ref r3, .ref r4, .ref r5, .ref r6, .ref r7, .int 0]))] sz)) 0 0 (va_A [(h0, .inr (9, [.ref r0, .ref r1, .ref r2, .ref r3, .ref r4, .ref r5, .ref r6, .ref r7, .int 0]))] sz) := by
  refine Met.ofW (cc := cX9_number) (maxL := 1) (ret := (some .int)) (by decide) rfl ?_
  intro p e s m args below meth c s₁ B hml hv
  obtain ⟨rfl, hsz, hP, hK, hD0⟩ := hv
  have hx := B.exec
  have hb := B.bytes
  have hr := B.returns
  have hts := atoms_spec (ws := q_X9_number) B.pre
  have hown : s.vm.findClass RX9 = some m.cls := findClass_of_methodNamed B.named
  have hlocks := B.notSynchronized
  subst hsz
  have hD := hD0.self (sz := s.heap.size)
  generalize hAe : va_A [(h0, .inr (9, [.ref r0, .ref r1, .ref r2, .ref r3, .ref r4, .ref r5, .ref r6, .ref r7, .int 0]))] s.heap.size = A at hD ⊢
  have hA : ∀ q : Nat, s.heap.size ≤ q → A q := fun q h => by rw [← hAe]; exact Or.inr h
  have hS : va_S A s.heap s.heap [] := va_S.rf
  have hl := lv_entry ([.ref h0]) (n := 1) (Nat.le_of_ble_eq_true rfl)
  rw [lg_entry_eq]
  generalize (lg_sl ([.ref h0]) ++ List.replicate (1 - (lg_sl ([.ref h0])).length) Slot.unset).toArray = ls at hl ⊢
  have hl : lv_has ls 1 [(0, .ref h0)] := hl
  refine lv_aload_n hx hb dX9_number_0 rfl (lv_at hl 0 rfl) ?_
  refine va_get (D := (dC, dI)) (ci := 9) (v := .int 0) (C := RX9) (T := TX9) (N := 9) hx hb hts (fun _ h => List.mem_cons_of_mem _ (List.mem_append_right _ h)) hown hK hP 0 rfl rfl 8 (by decide) (hts (.fieldLink RX9 35 "LeftArguments$Sightings" "number" "I") (List.mem_cons_of_mem _ (List.mem_append_left _ (List.mem_of_getElem? (i := 0) rfl)))) (fun _ h9 => h9) rfl dX9_number_1 ?_
  have hP9 := hP.sub (ws' := [(h0, .inr (9, [.ref r0, .ref r1, .ref r2, .ref r3, .ref r4, .ref r5, .ref r6, .ref r7, .int 0]))]) [0] rfl
  have hD9 := hD.sub (ws' := [(h0, .inr (9, [.ref r0, .ref r1, .ref r2, .ref r3, .ref r4, .ref r5, .ref r6, .ref r7, .int 0]))]) [0] (by decide) rfl
  have hK9 := hK.sub (tys' := []) [] rfl
  exact W.iret (v := 0) hx hb hr (fun t ht hW => ⟨⟨0, (), rfl, rfl, by rw [ht]; exact hP9, va_K.moved hW.alike hK9, hD9⟩, hS.F ht⟩) hS.2.2 dX9_number_4
def q_X0_number : List Cond := .code yX0_number cX0_number 1 (some .int) :: (([.fieldLink RX0 19 "LeftArguments$Acts" "number" "I"] : List Cond) ++ wsX00)
set_option maxHeartbeats 4000000 in
set_option maxRecDepth 100000 in
theorem k_X0_number (l : Launch) (dC : Nat → ClassId) (dI : Nat → Nat → Nat) (h0 : Nat) (r0 : Nat) (sz : Nat) : Met l yX0_number q_X0_number ({ frames := 0, cells := 0, slots := 0, locals := 0 }) (va_Pc [.ref h0] (fun U => U.heap.size = sz ∧ va_P (dC, dI) vwCl [(h0, .inr (0, [.ref r0, .int 0, .int 0]))] U.heap ∧ va_K (dC, dI) vwCl [] U ∧ va_D (fun _ => True) [(h0, .inr (0, [.ref r0, .int 0, .int 0]))])) (va_Qi (fun (r : Int32) (_ : Unit) => r = 0) (fun (_ : Unit) (t : State) => va_P (dC, dI) vwCl [(h0, .inr (0, [.ref r0, .int 0, .int 0]))] t.heap ∧ va_K (dC, dI) vwCl [] t ∧ va_D (va_A [(h0, .inr (0, [.ref r0, .int 0, .int 0]))] sz) [(h0, .inr (0, [.ref r0, .int 0, .int 0]))]) (va_A [(h0, .inr (0, [.ref r0, .int 0, .int 0]))] sz)) 0 0 (va_A [(h0, .inr (0, [.ref r0, .int 0, .int 0]))] sz) := by
  refine Met.ofW (cc := cX0_number) (maxL := 1) (ret := (some .int)) (by decide) rfl ?_
  intro p e s m args below meth c s₁ B hml hv
  obtain ⟨rfl, hsz, hP, hK, hD0⟩ := hv
  have hx := B.exec
  have hb := B.bytes
  have hr := B.returns
  have hts := atoms_spec (ws := q_X0_number) B.pre
  have hown : s.vm.findClass RX0 = some m.cls := findClass_of_methodNamed B.named
  have hlocks := B.notSynchronized
  subst hsz
  have hD := hD0.self (sz := s.heap.size)
  generalize hAe : va_A [(h0, .inr (0, [.ref r0, .int 0, .int 0]))] s.heap.size = A at hD ⊢
  have hA : ∀ q : Nat, s.heap.size ≤ q → A q := fun q h => by rw [← hAe]; exact Or.inr h
  have hS : va_S A s.heap s.heap [] := va_S.rf
  have hl := lv_entry ([.ref h0]) (n := 1) (Nat.le_of_ble_eq_true rfl)
  rw [lg_entry_eq]
  generalize (lg_sl ([.ref h0]) ++ List.replicate (1 - (lg_sl ([.ref h0])).length) Slot.unset).toArray = ls at hl ⊢
  have hl : lv_has ls 1 [(0, .ref h0)] := hl
  refine lv_aload_n hx hb dX0_number_0 rfl (lv_at hl 0 rfl) ?_
  refine va_get (D := (dC, dI)) (ci := 0) (v := .int 0) (C := RX0) (T := TX0) (N := 3) hx hb hts (fun _ h => List.mem_cons_of_mem _ (List.mem_append_right _ h)) hown hK hP 0 rfl rfl 2 (by decide) (hts (.fieldLink RX0 19 "LeftArguments$Acts" "number" "I") (List.mem_cons_of_mem _ (List.mem_append_left _ (List.mem_of_getElem? (i := 0) rfl)))) (fun _ h9 => h9) rfl dX0_number_1 ?_
  have hP9 := hP.sub (ws' := [(h0, .inr (0, [.ref r0, .int 0, .int 0]))]) [0] rfl
  have hD9 := hD.sub (ws' := [(h0, .inr (0, [.ref r0, .int 0, .int 0]))]) [0] (by decide) rfl
  have hK9 := hK.sub (tys' := []) [] rfl
  exact W.iret (v := 0) hx hb hr (fun t ht hW => ⟨⟨0, (), rfl, rfl, by rw [ht]; exact hP9, va_K.moved hW.alike hK9, hD9⟩, hS.F ht⟩) hS.2.2 dX0_number_4
def q_X11_count : List Cond := .code yX11_count cX11_count 2 (some .int) :: (([.fieldLink RX11 42 "LeftArguments" "office" "LLeftArguments$Office;", .code yX5_toldCount cX5_toldCount 1 (some .int), .fieldLink RX5 20 "LeftArguments$Office" "toldCount" "I", .initialized RX5, .instanceMethod yX5_toldCount, .selects RX5 yX5_toldCount yX5_toldCount, .methodLink RX11 152 yX5_toldCount, .fieldLink RX11 49 "LeftArguments" "room" "LLeftArguments$Room;", .code yX7_bags cX7_bags 1 (some .int), .code yX7_bagsWith cX7_bagsWith 5 (some .int), .code yX7_has cX7_has 2 (some .boolean), .fieldLink RX7 11 "LeftArguments$Room" "cells" "[I", .initialized RX7, .instanceMethod yX7_has, .selects RX7 yX7_has yX7_has, .methodLink RX7 70 yX7_has, .instanceMethod yX7_bagsWith, .selects RX7 yX7_bagsWith yX7_bagsWith, .methodLink RX7 77 yX7_bagsWith, .instanceMethod yX7_bags, .selects RX7 yX7_bags yX7_bags, .methodLink RX11 189 yX7_bags, .code yJ6_bitCount_0f7a4 cJ6_bitCount_0f7a4 1 (some .int), .constant RJ6 265 (1431655765), .constant RJ6 266 (858993459), .constant RJ6 267 (252645135), .initialized RJ6, .static yJ6_bitCount_0f7a4, .methodLink RX11 192 yJ6_bitCount_0f7a4, .fieldLink RX11 35 "LeftArguments" "laws" "LLeftArguments$Laws;", .code yX4_number cX4_number 1 (some .int), .fieldLink RX4 28 "LeftArguments$Laws" "number" "I", .initialized RX4, .instanceMethod yX4_number, .selects RX4 yX4_number yX4_number, .methodLink RX11 134 yX4_number, .fieldLink RX11 10 "LeftArguments" "tape" "LLeftArguments$Tape;", .code yX10_used cX10_used 1 (some .int), .fieldLink RX10 15 "LeftArguments$Tape" "used" "I", .initialized RX10, .instanceMethod yX10_used, .selects RX10 yX10_used yX10_used, .methodLink RX11 116 yX10_used, .code yX4_chosen cX4_chosen 1 (some .int), .fieldLink RX4 32 "LeftArguments$Laws" "chosen" "I", .instanceMethod yX4_chosen, .selects RX4 yX4_chosen yX4_chosen, .methodLink RX11 197 yX4_chosen, .code yX7_day cX7_day 1 (some .int), .instanceMethod yX7_day, .selects RX7 yX7_day yX7_day, .methodLink RX11 200 yX7_day, .fieldLink RX11 104 "LeftArguments" "trainOdds" "I", .fieldLink RX11 79 "LeftArguments" "sightings" "LLeftArguments$Sightings;", .code yX9_number cX9_number 1 (some .int), .fieldLink RX9 35 "LeftArguments$Sightings" "number" "I", .initialized RX9, .instanceMethod yX9_number, .selects RX9 yX9_number yX9_number, .methodLink RX11 203 yX9_number, .code yX1_lengthOn cX1_lengthOn 1 (some .int), .methodLink RX1 25 Lib.Math.min.name, .static Lib.Math.min.name, .initialized "java/lang/Math", .code Lib.Math.min.name Lib.Math.min.code 2 (some .int), .initialized RX1, .static yX1_lengthOn, .methodLink RX11 204 yX1_lengthOn, .fieldLink RX11 63 "LeftArguments" "acts" "LLeftArguments$Acts;", .code yX0_number cX0_number 1 (some .int), .fieldLink RX0 19 "LeftArguments$Acts" "number" "I", .initialized RX0, .instanceMethod yX0_number, .selects RX0 yX0_number yX0_number, .methodLink RX11 207 yX0_number, .constant RX11 208 (-1000000)] : List Cond) ++ wsX110 ++ wsX50 ++ wsX70 ++ wsX40 ++ wsX100 ++ wsX90 ++ wsX00)
set_option maxRecDepth 20000 in
theorem g_X11_count_0 : GoodIn q_X11_count (wsV RX11 152 RX5 yX5_toldCount q_X5_toldCount) := goodIn_app (goodIn_r _ [7, 5, 6, 4] (by decide +kernel) (by decide +kernel)) (goodIn_ca (goodIn_r (.code yX5_toldCount cX5_toldCount 1 (some .int) :: [.fieldLink RX5 20 "LeftArguments$Office" "toldCount" "I"]) [2, 3] (by decide +kernel) (by decide +kernel)) (goodIn_sub (fun _ h => List.mem_cons_of_mem _ (List.mem_append_left _ (List.mem_append_left _ (List.mem_append_left _ (List.mem_append_left _ (List.mem_append_left _ (List.mem_append_right _ h))))))) gwX5))
set_option maxRecDepth 20000 in
theorem g_X11_count_1 : GoodIn q_X11_count (wsV RX11 189 RX7 yX7_bags q_X7_bags) := goodIn_app (goodIn_r _ [22, 20, 21, 13] (by decide +kernel) (by decide +kernel)) (goodIn_ca (goodIn_r (.code yX7_bags cX7_bags 1 (some .int) :: [.code yX7_bagsWith cX7_bagsWith 5 (some .int), .code yX7_has cX7_has 2 (some .boolean), .fieldLink RX7 11 "LeftArguments$Room" "cells" "[I", .initialized RX7, .instanceMethod yX7_has, .selects RX7 yX7_has yX7_has, .methodLink RX7 70 yX7_has, .instanceMethod yX7_bagsWith, .selects RX7 yX7_bagsWith yX7_bagsWith, .methodLink RX7 77 yX7_bagsWith]) [9, 10, 11, 12, 13, 14, 15, 16, 17, 18, 19] (by decide +kernel) (by decide +kernel)) (goodIn_sub (fun _ h => List.mem_cons_of_mem _ (List.mem_append_left _ (List.mem_append_left _ (List.mem_append_left _ (List.mem_append_left _ (List.mem_append_right _ h)))))) gwX7))
set_option maxRecDepth 20000 in
theorem g_X11_count_2 : GoodIn q_X11_count (va_wsS RX11 192 yJ6_bitCount_0f7a4 q_J6_bitCount_0f7a4) := goodIn_app (goodIn_r _ [29, 28, 27] (by decide +kernel) (by decide +kernel)) (goodIn_r (.code yJ6_bitCount_0f7a4 cJ6_bitCount_0f7a4 1 (some .int) :: [.constant RJ6 265 (1431655765), .constant RJ6 266 (858993459), .constant RJ6 267 (252645135)]) [23, 24, 25, 26] (by decide +kernel) (by decide +kernel))
set_option maxRecDepth 20000 in
theorem g_X11_count_3 : GoodIn q_X11_count (wsV RX11 134 RX4 yX4_number q_X4_number) := goodIn_app (goodIn_r _ [36, 34, 35, 33] (by decide +kernel) (by decide +kernel)) (goodIn_ca (goodIn_r (.code yX4_number cX4_number 1 (some .int) :: [.fieldLink RX4 28 "LeftArguments$Laws" "number" "I"]) [31, 32] (by decide +kernel) (by decide +kernel)) (goodIn_sub (fun _ h => List.mem_cons_of_mem _ (List.mem_append_left _ (List.mem_append_left _ (List.mem_append_left _ (List.mem_append_right _ h))))) gwX4))
set_option maxRecDepth 20000 in
theorem g_X11_count_4 : GoodIn q_X11_count (wsV RX11 116 RX10 yX10_used q_X10_used) := goodIn_app (goodIn_r _ [43, 41, 42, 40] (by decide +kernel) (by decide +kernel)) (goodIn_ca (goodIn_r (.code yX10_used cX10_used 1 (some .int) :: [.fieldLink RX10 15 "LeftArguments$Tape" "used" "I"]) [38, 39] (by decide +kernel) (by decide +kernel)) (goodIn_sub (fun _ h => List.mem_cons_of_mem _ (List.mem_append_left _ (List.mem_append_left _ (List.mem_append_right _ h)))) gwX10))
set_option maxRecDepth 20000 in
theorem g_X11_count_5 : GoodIn q_X11_count (wsV RX11 197 RX4 yX4_chosen q_X4_chosen) := goodIn_app (goodIn_r _ [48, 46, 47, 33] (by decide +kernel) (by decide +kernel)) (goodIn_ca (goodIn_r (.code yX4_chosen cX4_chosen 1 (some .int) :: [.fieldLink RX4 32 "LeftArguments$Laws" "chosen" "I"]) [44, 45] (by decide +kernel) (by decide +kernel)) (goodIn_sub (fun _ h => List.mem_cons_of_mem _ (List.mem_append_left _ (List.mem_append_left _ (List.mem_append_left _ (List.mem_append_right _ h))))) gwX4))
set_option maxRecDepth 20000 in
theorem g_X11_count_6 : GoodIn q_X11_count (wsV RX11 200 RX7 yX7_day q_X7_day) := goodIn_app (goodIn_r _ [52, 50, 51, 13] (by decide +kernel) (by decide +kernel)) (goodIn_ca (goodIn_r (.code yX7_day cX7_day 1 (some .int) :: [.fieldLink RX7 11 "LeftArguments$Room" "cells" "[I"]) [49, 12] (by decide +kernel) (by decide +kernel)) (goodIn_sub (fun _ h => List.mem_cons_of_mem _ (List.mem_append_left _ (List.mem_append_left _ (List.mem_append_left _ (List.mem_append_left _ (List.mem_append_right _ h)))))) gwX7))
set_option maxRecDepth 20000 in
theorem g_X11_count_7 : GoodIn q_X11_count (wsV RX11 203 RX9 yX9_number q_X9_number) := goodIn_app (goodIn_r _ [60, 58, 59, 57] (by decide +kernel) (by decide +kernel)) (goodIn_ca (goodIn_r (.code yX9_number cX9_number 1 (some .int) :: [.fieldLink RX9 35 "LeftArguments$Sightings" "number" "I"]) [55, 56] (by decide +kernel) (by decide +kernel)) (goodIn_sub (fun _ h => List.mem_cons_of_mem _ (List.mem_append_left _ (List.mem_append_right _ h))) gwX9))
set_option maxRecDepth 20000 in
theorem g_X11_count_8 : GoodIn q_X11_count (wsV RX11 200 RX7 yX7_day q_X7_day) := goodIn_app (goodIn_r _ [52, 50, 51, 13] (by decide +kernel) (by decide +kernel)) (goodIn_ca (goodIn_r (.code yX7_day cX7_day 1 (some .int) :: [.fieldLink RX7 11 "LeftArguments$Room" "cells" "[I"]) [49, 12] (by decide +kernel) (by decide +kernel)) (goodIn_sub (fun _ h => List.mem_cons_of_mem _ (List.mem_append_left _ (List.mem_append_left _ (List.mem_append_left _ (List.mem_append_left _ (List.mem_append_right _ h)))))) gwX7))
set_option maxRecDepth 20000 in
theorem g_X11_count_9 : GoodIn q_X11_count (va_wsS RX11 204 yX1_lengthOn q_X1_lengthOn) := goodIn_app (goodIn_r _ [68, 67, 66] (by decide +kernel) (by decide +kernel)) (goodIn_r (.code yX1_lengthOn cX1_lengthOn 1 (some .int) :: [.methodLink RX1 25 Lib.Math.min.name, .static Lib.Math.min.name, .initialized "java/lang/Math", .code Lib.Math.min.name Lib.Math.min.code 2 (some .int)]) [61, 62, 63, 64, 65] (by decide +kernel) (by decide +kernel))
set_option maxRecDepth 20000 in
theorem g_X11_count_10 : GoodIn q_X11_count (wsV RX11 207 RX0 yX0_number q_X0_number) := goodIn_app (goodIn_r _ [75, 73, 74, 72] (by decide +kernel) (by decide +kernel)) (goodIn_ca (goodIn_r (.code yX0_number cX0_number 1 (some .int) :: [.fieldLink RX0 19 "LeftArguments$Acts" "number" "I"]) [70, 71] (by decide +kernel) (by decide +kernel)) (goodIn_sub (fun _ h => List.mem_cons_of_mem _ (List.mem_append_right _ h)) gwX0))
set_option maxHeartbeats 4000000 in
set_option maxRecDepth 100000 in
theorem k_X11_count (l : Launch) (dC : Nat → ClassId) (dI : Nat → Nat → Nat) (g0 : ClassId) (h0 h1 h2 h3 h4 h5 h6 h7 : Nat) (r0 r1 r2 r3 r4 r5 r6 r7 r8 r9 r10 r11 r12 r13 r14 r15 r16 r17 r18 r19 r20 r21 r22 : Nat) (v0 : Int32) (sz : Nat) : Met l yX11_count q_X11_count ({ frames := 3, cells := 0, slots := 0, locals := 65 }) (va_Pc [.ref h0, .int v0] (fun U => U.heap.size = sz ∧ va_P (dC, dI) vwCl [(h0, .inr (11, [.ref h1, .ref r0, .ref r1, .ref h2, .ref h3, .ref h4, .ref r2, .ref h6, .ref r3, .ref h7, .ref r4, .ref r5, .ref r6, .ref r7, .int 0, .int 5, .long 0])), (h1, .inr (10, [.ref r8, .int 0, .int 0, .int (-1), .int 0])), (h2, .inr (4, [.ref r9, .ref r10, .ref r11, .ref r12, .int 0, .int (-1)])), (h3, .inr (5, [.ref r13, .ref r14, .int 0, .int 0])), (h4, .inr (7, [.ref h5, .ref r15, .int 0, .int 0])), (h5, .inl (g0, 58, .inl (fun _ => 0))), (h6, .inr (0, [.ref r16, .int 0, .int 0])), (h7, .inr (9, [.ref h2, .ref h3, .ref r17, .ref r18, .ref r19, .ref r20, .ref r21, .ref r22, .int 0]))] U.heap ∧ va_K (dC, dI) vwCl [(g0, .int)] U ∧ va_D (fun _ => True) [(h0, .inr (11, [.ref h1, .ref r0, .ref r1, .ref h2, .ref h3, .ref h4, .ref r2, .ref h6, .ref r3, .ref h7, .ref r4, .ref r5, .ref r6, .ref r7, .int 0, .int 5, .long 0])), (h1, .inr (10, [.ref r8, .int 0, .int 0, .int (-1), .int 0])), (h2, .inr (4, [.ref r9, .ref r10, .ref r11, .ref r12, .int 0, .int (-1)])), (h3, .inr (5, [.ref r13, .ref r14, .int 0, .int 0])), (h4, .inr (7, [.ref h5, .ref r15, .int 0, .int 0])), (h5, .inl (g0, 58, .inl (fun _ => 0))), (h6, .inr (0, [.ref r16, .int 0, .int 0])), (h7, .inr (9, [.ref h2, .ref h3, .ref r17, .ref r18, .ref r19, .ref r20, .ref r21, .ref r22, .int 0]))])) (va_Qi (fun (r : Int32) (_ : Unit) => r = (if v0 = 0 then 0 else (if v0 = 1 then 0 else (if v0 = 2 then 0 else (if v0 = 3 then 0 else (if v0 = 4 then (-1) else (if v0 = 5 then 0 else (if v0 = 6 then 5 else (if v0 = 7 then 0 else (if v0 = 8 then 0 else (if v0 = 9 then 0 else (-1000000)))))))))))) (fun (_ : Unit) (t : State) => va_P (dC, dI) vwCl [(h0, .inr (11, [.ref h1, .ref r0, .ref r1, .ref h2, .ref h3, .ref h4, .ref r2, .ref h6, .ref r3, .ref h7, .ref r4, .ref r5, .ref r6, .ref r7, .int 0, .int 5, .long 0])), (h1, .inr (10, [.ref r8, .int 0, .int 0, .int (-1), .int 0])), (h2, .inr (4, [.ref r9, .ref r10, .ref r11, .ref r12, .int 0, .int (-1)])), (h4, .inr (7, [.ref h5, .ref r15, .int 0, .int 0])), (h5, .inl (g0, 58, .inl (fun _ => 0))), (h6, .inr (0, [.ref r16, .int 0, .int 0])), (h7, .inr (9, [.ref h2, .ref h3, .ref r17, .ref r18, .ref r19, .ref r20, .ref r21, .ref r22, .int 0])), (h3, .inr (5, [.ref r13, .ref r14, .int 0, .int 0]))] t.heap ∧ va_K (dC, dI) vwCl [(g0, .int)] t ∧ va_D (va_A [(h0, .inr (11, [.ref h1, .ref r0, .ref r1, .ref h2, .ref h3, .ref h4, .ref r2, .ref h6, .ref r3, .ref h7, .ref r4, .ref r5, .ref r6, .ref r7, .int 0, .int 5, .long 0])), (h1, .inr (10, [.ref r8, .int 0, .int 0, .int (-1), .int 0])), (h2, .inr (4, [.ref r9, .ref r10, .ref r11, .ref r12, .int 0, .int (-1)])), (h3, .inr (5, [.ref r13, .ref r14, .int 0, .int 0])), (h4, .inr (7, [.ref h5, .ref r15, .int 0, .int 0])), (h5, .inl (g0, 58, .inl (fun _ => 0))), (h6, .inr (0, [.ref r16, .int 0, .int 0])), (h7, .inr (9, [.ref h2, .ref h3, .ref r17, .ref r18, .ref r19, .ref r20, .ref r21, .ref r22, .int 0]))] sz) [(h0, .inr (11, [.ref h1, .ref r0, .ref r1, .ref h2, .ref h3, .ref h4, .ref r2, .ref h6, .ref r3, .ref h7, .ref r4, .ref r5, .ref r6, .ref r7, .int 0, .int 5, .long 0])), (h1, .inr (10, [.ref r8, .int 0, .int 0, .int (-1), .int 0])), (h2, .inr (4, [.ref r9, .ref r10, .ref r11, .ref r12, .int 0, .int (-1)])), (h4, .inr (7, [.ref h5, .ref r15, .int 0, .int 0])), (h5, .inl (g0, 58, .inl (fun _ => 0))), (h6, .inr (0, [.ref r16, .int 0, .int 0])), (h7, .inr (9, [.ref h2, .ref h3, .ref r17, .ref r18, .ref r19, .ref r20, .ref r21, .ref r22, .int 0])), (h3, .inr (5, [.ref r13, .ref r14, .int 0, .int 0]))]) (va_A [(h0, .inr (11, [.ref h1, .ref r0, .ref r1, .ref h2, .ref h3, .ref h4, .ref r2, .ref h6, .ref r3, .ref h7, .ref r4, .ref r5, .ref r6, .ref r7, .int 0, .int 5, .long 0])), (h1, .inr (10, [.ref r8, .int 0, .int 0, .int (-1), .int 0])), (h2, .inr (4, [.ref r9, .ref r10, .ref r11, .ref r12, .int 0, .int (-1)])), (h3, .inr (5, [.ref r13, .ref r14, .int 0, .int 0])), (h4, .inr (7, [.ref h5, .ref r15, .int 0, .int 0])), (h5, .inl (g0, 58, .inl (fun _ => 0))), (h6, .inr (0, [.ref r16, .int 0, .int 0])), (h7, .inr (9, [.ref h2, .ref h3, .ref r17, .ref r18, .ref r19, .ref r20, .ref r21, .ref r22, .int 0]))] sz)) 0 0 (va_A [(h0, .inr (11, [.ref h1, .ref r0, .ref r1, .ref h2, .ref h3, .ref h4, .ref r2, .ref h6, .ref r3, .ref h7, .ref r4, .ref r5, .ref r6, .ref r7, .int 0, .int 5, .long 0])), (h1, .inr (10, [.ref r8, .int 0, .int 0, .int (-1), .int 0])), (h2, .inr (4, [.ref r9, .ref r10, .ref r11, .ref r12, .int 0, .int (-1)])), (h3, .inr (5, [.ref r13, .ref r14, .int 0, .int 0])), (h4, .inr (7, [.ref h5, .ref r15, .int 0, .int 0])), (h5, .inl (g0, 58, .inl (fun _ => 0))), (h6, .inr (0, [.ref r16, .int 0, .int 0])), (h7, .inr (9, [.ref h2, .ref h3, .ref r17, .ref r18, .ref r19, .ref r20, .ref r21, .ref r22, .int 0]))] sz) := by
  refine Met.ofW (cc := cX11_count) (maxL := 2) (ret := (some .int)) (by decide) rfl ?_
  intro p e s m args below meth c s₁ B hml hv
  obtain ⟨rfl, hsz, hP, hK, hD0⟩ := hv
  have hx := B.exec
  have hb := B.bytes
  have hr := B.returns
  have hts := atoms_spec (ws := q_X11_count) B.pre
  have hown : s.vm.findClass RX11 = some m.cls := findClass_of_methodNamed B.named
  have hlocks := B.notSynchronized
  subst hsz
  have hD := hD0.self (sz := s.heap.size)
  generalize hAe : va_A [(h0, .inr (11, [.ref h1, .ref r0, .ref r1, .ref h2, .ref h3, .ref h4, .ref r2, .ref h6, .ref r3, .ref h7, .ref r4, .ref r5, .ref r6, .ref r7, .int 0, .int 5, .long 0])), (h1, .inr (10, [.ref r8, .int 0, .int 0, .int (-1), .int 0])), (h2, .inr (4, [.ref r9, .ref r10, .ref r11, .ref r12, .int 0, .int (-1)])), (h3, .inr (5, [.ref r13, .ref r14, .int 0, .int 0])), (h4, .inr (7, [.ref h5, .ref r15, .int 0, .int 0])), (h5, .inl (g0, 58, .inl (fun _ => 0))), (h6, .inr (0, [.ref r16, .int 0, .int 0])), (h7, .inr (9, [.ref h2, .ref h3, .ref r17, .ref r18, .ref r19, .ref r20, .ref r21, .ref r22, .int 0]))] s.heap.size = A at hD ⊢
  have hA : ∀ q : Nat, s.heap.size ≤ q → A q := fun q h => by rw [← hAe]; exact Or.inr h
  have hS : va_S A s.heap s.heap [] := va_S.rf
  have hl := lv_entry ([.ref h0, .int v0]) (n := 2) (Nat.le_of_ble_eq_true rfl)
  rw [lg_entry_eq]
  generalize (lg_sl ([.ref h0, .int v0]) ++ List.replicate (2 - (lg_sl ([.ref h0, .int v0])).length) Slot.unset).toArray = ls at hl ⊢
  have hl : lv_has ls 2 [(0, .ref h0), (1, .int v0)] := hl
  refine lv_iload_n hx hb dX11_count_0 rfl (lv_at hl 1 rfl) ?_
  by_cases c1 : v0 = 0
  · skip
    refine lv_tableIn (off := 55) (tgt := 56) hx hb dX11_count_1 (by rw [c1]; decide) (by rw [c1]; decide) (by rw [c1]; rfl) (by decide) ?_
    refine lv_aload_n hx hb dX11_count_56 rfl (lv_at hl 0 rfl) ?_
    refine va_get (D := (dC, dI)) (ci := 11) (v := .ref h3) (C := RX11) (T := TX11) (N := 17) hx hb hts (fun _ h => List.mem_cons_of_mem _ (List.mem_append_left _ (List.mem_append_left _ (List.mem_append_left _ (List.mem_append_left _ (List.mem_append_left _ (List.mem_append_left _ (List.mem_append_right _ h)))))))) hown hK hP 0 rfl rfl 4 (by decide) (hts (.fieldLink RX11 42 "LeftArguments" "office" "LLeftArguments$Office;") (List.mem_cons_of_mem _ (List.mem_append_left _ (List.mem_append_left _ (List.mem_append_left _ (List.mem_append_left _ (List.mem_append_left _ (List.mem_append_left _ (List.mem_append_left _ (List.mem_of_getElem? (i := 0) rfl)))))))))) (fun _ h9 => h9) rfl dX11_count_57 ?_
    have hPc := hP.sub (ws' := [(h3, .inr (5, [.ref r13, .ref r14, .int 0, .int 0]))]) [3] rfl
    have hDc := hD.sub (ws' := [(h3, .inr (5, [.ref r13, .ref r14, .int 0, .int 0]))]) [3] (by decide) rfl
    have hKc := hK.sub (tys' := []) [] rfl
    have hFc := va_free (wc := [(h3, .inr (5, [.ref r13, .ref r14, .int 0, .int 0]))]) hD hS hA [3] rfl
    refine va_calli (va_runV (As := []) (rest := []) ⟨hx, hb, hml, hown, hts⟩ (k_X5_toldCount l dC dI h3 r13 r14  s.heap.size) (cwV 0 hts g_X11_count_0 rfl rfl rfl (by decide +kernel) ⟨Nat.le_of_ble_eq_true rfl, Nat.le_of_ble_eq_true rfl⟩) ⟨fun a U g mk q => by obtain ⟨q0, q1, qP, qK, qD⟩ := q; exact ⟨q0, q1, qP, va_K.moved (u := U) (U := U.calling g mk a) (Vm.Alike.refl U.vm) qK, qD⟩, va_recv hKc hPc (ci := 5) (q0 := 0) rfl rfl, fun U hU hW => ⟨rfl, by rw [hU], by rw [hU]; exact hPc, va_K.moved hW.alike hKc, hDc.weaken (fun _ _ _ _ => trivial)⟩⟩ rfl rfl hl.1 rfl (lv_room (Nat.le_of_ble_eq_true rfl)) dX11_count_60 ⟨Nat.le_of_ble_eq_true rfl, Nat.le_of_ble_eq_true rfl⟩) hS (fun q _ h => hFc q h) hFc (fun ra2 u t H1 locs ht hvm hw hB hz1 hk1 hS => ?_)
    obtain ⟨hP1, hK1, hD1⟩ := hB
    rw [ht] at hP1
    obtain ⟨hP, hD⟩ := va_join (wr := [(h0, .inr (11, [.ref h1, .ref r0, .ref r1, .ref h2, .ref h3, .ref h4, .ref r2, .ref h6, .ref r3, .ref h7, .ref r4, .ref r5, .ref r6, .ref r7, .int 0, .int 5, .long 0])), (h1, .inr (10, [.ref r8, .int 0, .int 0, .int (-1), .int 0])), (h2, .inr (4, [.ref r9, .ref r10, .ref r11, .ref r12, .int 0, .int (-1)])), (h4, .inr (7, [.ref h5, .ref r15, .int 0, .int 0])), (h5, .inl (g0, 58, .inl (fun _ => 0))), (h6, .inr (0, [.ref r16, .int 0, .int 0])), (h7, .inr (9, [.ref h2, .ref h3, .ref r17, .ref r18, .ref r19, .ref r20, .ref r21, .ref r22, .int 0]))]) (w1 := [(h3, .inr (5, [.ref r13, .ref r14, .int 0, .int 0]))]) hP hD [3] [0, 1, 2, 4, 5, 6, 7] rfl rfl (by decide) (by decide) hk1 hFc hP1 hD1
    generalize H1 = H at hP hS ⊢
    have hP : va_P (dC, dI) vwCl [(h0, .inr (11, [.ref h1, .ref r0, .ref r1, .ref h2, .ref h3, .ref h4, .ref r2, .ref h6, .ref r3, .ref h7, .ref r4, .ref r5, .ref r6, .ref r7, .int 0, .int 5, .long 0])), (h1, .inr (10, [.ref r8, .int 0, .int 0, .int (-1), .int 0])), (h2, .inr (4, [.ref r9, .ref r10, .ref r11, .ref r12, .int 0, .int (-1)])), (h4, .inr (7, [.ref h5, .ref r15, .int 0, .int 0])), (h5, .inl (g0, 58, .inl (fun _ => 0))), (h6, .inr (0, [.ref r16, .int 0, .int 0])), (h7, .inr (9, [.ref h2, .ref h3, .ref r17, .ref r18, .ref r19, .ref r20, .ref r21, .ref r22, .int 0])), (h3, .inr (5, [.ref r13, .ref r14, .int 0, .int 0]))] H := hP
    have hD : va_D A [(h0, .inr (11, [.ref h1, .ref r0, .ref r1, .ref h2, .ref h3, .ref h4, .ref r2, .ref h6, .ref r3, .ref h7, .ref r4, .ref r5, .ref r6, .ref r7, .int 0, .int 5, .long 0])), (h1, .inr (10, [.ref r8, .int 0, .int 0, .int (-1), .int 0])), (h2, .inr (4, [.ref r9, .ref r10, .ref r11, .ref r12, .int 0, .int (-1)])), (h4, .inr (7, [.ref h5, .ref r15, .int 0, .int 0])), (h5, .inl (g0, 58, .inl (fun _ => 0))), (h6, .inr (0, [.ref r16, .int 0, .int 0])), (h7, .inr (9, [.ref h2, .ref h3, .ref r17, .ref r18, .ref r19, .ref r20, .ref r21, .ref r22, .int 0])), (h3, .inr (5, [.ref r13, .ref r14, .int 0, .int 0]))] := hD
    obtain rfl : ra2 = (0 : Int32) := hw
    have hP9 := hP.sub (ws' := [(h0, .inr (11, [.ref h1, .ref r0, .ref r1, .ref h2, .ref h3, .ref h4, .ref r2, .ref h6, .ref r3, .ref h7, .ref r4, .ref r5, .ref r6, .ref r7, .int 0, .int 5, .long 0])), (h1, .inr (10, [.ref r8, .int 0, .int 0, .int (-1), .int 0])), (h2, .inr (4, [.ref r9, .ref r10, .ref r11, .ref r12, .int 0, .int (-1)])), (h4, .inr (7, [.ref h5, .ref r15, .int 0, .int 0])), (h5, .inl (g0, 58, .inl (fun _ => 0))), (h6, .inr (0, [.ref r16, .int 0, .int 0])), (h7, .inr (9, [.ref h2, .ref h3, .ref r17, .ref r18, .ref r19, .ref r20, .ref r21, .ref r22, .int 0])), (h3, .inr (5, [.ref r13, .ref r14, .int 0, .int 0]))]) [0, 1, 2, 3, 4, 5, 6, 7] rfl
    have hD9 := hD.sub (ws' := [(h0, .inr (11, [.ref h1, .ref r0, .ref r1, .ref h2, .ref h3, .ref h4, .ref r2, .ref h6, .ref r3, .ref h7, .ref r4, .ref r5, .ref r6, .ref r7, .int 0, .int 5, .long 0])), (h1, .inr (10, [.ref r8, .int 0, .int 0, .int (-1), .int 0])), (h2, .inr (4, [.ref r9, .ref r10, .ref r11, .ref r12, .int 0, .int (-1)])), (h4, .inr (7, [.ref h5, .ref r15, .int 0, .int 0])), (h5, .inl (g0, 58, .inl (fun _ => 0))), (h6, .inr (0, [.ref r16, .int 0, .int 0])), (h7, .inr (9, [.ref h2, .ref h3, .ref r17, .ref r18, .ref r19, .ref r20, .ref r21, .ref r22, .int 0])), (h3, .inr (5, [.ref r13, .ref r14, .int 0, .int 0]))]) [0, 1, 2, 3, 4, 5, 6, 7] (by decide) rfl
    have hK9 := hK.sub (tys' := [(g0, .int)]) [0] rfl
    exact W.iret (v := 0) hx hb hr (fun t ht hW => ⟨⟨0, (), rfl, by rw [if_pos c1], by rw [ht]; exact hP9, va_K.moved hW.alike hK9, hD9⟩, hS.F ht⟩) hS.2.2 dX11_count_63
  by_cases c3 : v0 = 1
  · skip
    refine lv_tableIn (off := 63) (tgt := 64) hx hb dX11_count_1 (by rw [c3]; decide) (by rw [c3]; decide) (by rw [c3]; rfl) (by decide) ?_
    refine lv_aload_n hx hb dX11_count_64 rfl (lv_at hl 0 rfl) ?_
    refine va_get (D := (dC, dI)) (ci := 11) (v := .ref h4) (C := RX11) (T := TX11) (N := 17) hx hb hts (fun _ h => List.mem_cons_of_mem _ (List.mem_append_left _ (List.mem_append_left _ (List.mem_append_left _ (List.mem_append_left _ (List.mem_append_left _ (List.mem_append_left _ (List.mem_append_right _ h)))))))) hown hK hP 0 rfl rfl 5 (by decide) (hts (.fieldLink RX11 49 "LeftArguments" "room" "LLeftArguments$Room;") (List.mem_cons_of_mem _ (List.mem_append_left _ (List.mem_append_left _ (List.mem_append_left _ (List.mem_append_left _ (List.mem_append_left _ (List.mem_append_left _ (List.mem_append_left _ (List.mem_of_getElem? (i := 7) rfl)))))))))) (fun _ h9 => h9) rfl dX11_count_65 ?_
    have hPc := hP.sub (ws' := [(h4, .inr (7, [.ref h5, .ref r15, .int 0, .int 0])), (h5, .inl (g0, 58, .inl (fun _ => 0)))]) [4, 5] rfl
    have hDc := hD.sub (ws' := [(h4, .inr (7, [.ref h5, .ref r15, .int 0, .int 0])), (h5, .inl (g0, 58, .inl (fun _ => 0)))]) [4, 5] (by decide) rfl
    have hKc := hK.sub (tys' := [(g0, .int)]) [0] rfl
    have hFc := va_free (wc := [(h4, .inr (7, [.ref h5, .ref r15, .int 0, .int 0])), (h5, .inl (g0, 58, .inl (fun _ => 0)))]) hD hS hA [4, 5] rfl
    refine va_calli (va_runV (As := []) (rest := []) ⟨hx, hb, hml, hown, hts⟩ (k_X7_bags l dC dI g0 h4 h5 r15  s.heap.size) (cwV 0 hts g_X11_count_1 rfl rfl rfl (by decide +kernel) ⟨Nat.le_of_ble_eq_true rfl, Nat.le_of_ble_eq_true rfl⟩) ⟨fun a U g mk q => by obtain ⟨q0, q1, qP, qK, qD⟩ := q; exact ⟨q0, q1, qP, va_K.moved (u := U) (U := U.calling g mk a) (Vm.Alike.refl U.vm) qK, qD⟩, va_recv hKc hPc (ci := 7) (q0 := 0) rfl rfl, fun U hU hW => ⟨rfl, by rw [hU], by rw [hU]; exact hPc, va_K.moved hW.alike hKc, hDc.weaken (fun _ _ _ _ => trivial)⟩⟩ rfl rfl hl.1 rfl (lv_room (Nat.le_of_ble_eq_true rfl)) dX11_count_68 ⟨Nat.le_of_ble_eq_true rfl, Nat.le_of_ble_eq_true rfl⟩) hS (fun q _ h => hFc q h) hFc (fun ra4 u t H1 locs ht hvm hw hB hz1 hk1 hS => ?_)
    obtain ⟨hP1, hK1, hD1⟩ := hB
    rw [ht] at hP1
    obtain ⟨hP, hD⟩ := va_join (wr := [(h0, .inr (11, [.ref h1, .ref r0, .ref r1, .ref h2, .ref h3, .ref h4, .ref r2, .ref h6, .ref r3, .ref h7, .ref r4, .ref r5, .ref r6, .ref r7, .int 0, .int 5, .long 0])), (h1, .inr (10, [.ref r8, .int 0, .int 0, .int (-1), .int 0])), (h2, .inr (4, [.ref r9, .ref r10, .ref r11, .ref r12, .int 0, .int (-1)])), (h3, .inr (5, [.ref r13, .ref r14, .int 0, .int 0])), (h6, .inr (0, [.ref r16, .int 0, .int 0])), (h7, .inr (9, [.ref h2, .ref h3, .ref r17, .ref r18, .ref r19, .ref r20, .ref r21, .ref r22, .int 0]))]) (w1 := [(h4, .inr (7, [.ref h5, .ref r15, .int 0, .int 0])), (h5, .inl (g0, 58, .inl (fun _ => 0)))]) hP hD [4, 5] [0, 1, 2, 3, 6, 7] rfl rfl (by decide) (by decide) hk1 hFc hP1 hD1
    generalize H1 = H at hP hS ⊢
    have hP : va_P (dC, dI) vwCl [(h0, .inr (11, [.ref h1, .ref r0, .ref r1, .ref h2, .ref h3, .ref h4, .ref r2, .ref h6, .ref r3, .ref h7, .ref r4, .ref r5, .ref r6, .ref r7, .int 0, .int 5, .long 0])), (h1, .inr (10, [.ref r8, .int 0, .int 0, .int (-1), .int 0])), (h2, .inr (4, [.ref r9, .ref r10, .ref r11, .ref r12, .int 0, .int (-1)])), (h3, .inr (5, [.ref r13, .ref r14, .int 0, .int 0])), (h6, .inr (0, [.ref r16, .int 0, .int 0])), (h7, .inr (9, [.ref h2, .ref h3, .ref r17, .ref r18, .ref r19, .ref r20, .ref r21, .ref r22, .int 0])), (h4, .inr (7, [.ref h5, .ref r15, .int 0, .int 0])), (h5, .inl (g0, 58, .inl (fun _ => 0)))] H := hP
    have hD : va_D A [(h0, .inr (11, [.ref h1, .ref r0, .ref r1, .ref h2, .ref h3, .ref h4, .ref r2, .ref h6, .ref r3, .ref h7, .ref r4, .ref r5, .ref r6, .ref r7, .int 0, .int 5, .long 0])), (h1, .inr (10, [.ref r8, .int 0, .int 0, .int (-1), .int 0])), (h2, .inr (4, [.ref r9, .ref r10, .ref r11, .ref r12, .int 0, .int (-1)])), (h3, .inr (5, [.ref r13, .ref r14, .int 0, .int 0])), (h6, .inr (0, [.ref r16, .int 0, .int 0])), (h7, .inr (9, [.ref h2, .ref h3, .ref r17, .ref r18, .ref r19, .ref r20, .ref r21, .ref r22, .int 0])), (h4, .inr (7, [.ref h5, .ref r15, .int 0, .int 0])), (h5, .inl (g0, 58, .inl (fun _ => 0)))] := hD
    obtain rfl : ra4 = (0 : Int32) := hw
    have hPc := hP.sub (ws' := []) [] rfl
    have hDc := hD.sub (ws' := []) [] (by decide) rfl
    have hKc := hK.sub (tys' := []) [] rfl
    have hFc := va_free (wc := []) hD hS hA [] rfl
    refine va_calli (va_runS (As := [.int 0]) (rest := []) ⟨hx, hb, hml, hown, hts⟩ (k_J6_bitCount_0f7a4 l dC dI   H.size) (va_cwS 1 hts g_X11_count_2 rfl rfl rfl (by decide +kernel) ⟨Nat.le_of_ble_eq_true rfl, Nat.le_of_ble_eq_true rfl⟩) ⟨fun a U g mk q => by obtain ⟨q0, q1, qP, qK, qD⟩ := q; exact ⟨q0, q1, qP, va_K.moved (u := U) (U := U.calling g mk a) (Vm.Alike.refl U.vm) qK, qD⟩, fun U hU hW => ⟨rfl, by rw [hU], by rw [hU]; exact hPc, va_K.moved hW.alike hKc, hDc.weaken (fun _ _ _ _ => trivial)⟩⟩ rfl rfl hl.1 rfl (lv_room (Nat.le_of_ble_eq_true rfl)) dX11_count_71 ⟨Nat.le_of_ble_eq_true rfl, Nat.le_of_ble_eq_true rfl⟩) hS (fun q _ h => hFc q h) hFc (fun ra5 u t H1 locs ht hvm hw hB hz1 hk1 hS => ?_)
    obtain ⟨hP1, hK1, hD1⟩ := hB
    rw [ht] at hP1
    obtain ⟨hP, hD⟩ := va_join (wr := [(h0, .inr (11, [.ref h1, .ref r0, .ref r1, .ref h2, .ref h3, .ref h4, .ref r2, .ref h6, .ref r3, .ref h7, .ref r4, .ref r5, .ref r6, .ref r7, .int 0, .int 5, .long 0])), (h1, .inr (10, [.ref r8, .int 0, .int 0, .int (-1), .int 0])), (h2, .inr (4, [.ref r9, .ref r10, .ref r11, .ref r12, .int 0, .int (-1)])), (h3, .inr (5, [.ref r13, .ref r14, .int 0, .int 0])), (h6, .inr (0, [.ref r16, .int 0, .int 0])), (h7, .inr (9, [.ref h2, .ref h3, .ref r17, .ref r18, .ref r19, .ref r20, .ref r21, .ref r22, .int 0])), (h4, .inr (7, [.ref h5, .ref r15, .int 0, .int 0])), (h5, .inl (g0, 58, .inl (fun _ => 0)))]) (w1 := []) hP hD [] [0, 1, 2, 3, 4, 5, 6, 7] rfl rfl (by decide) (by decide) hk1 hFc hP1 hD1
    generalize H1 = H at hP hS ⊢
    have hP : va_P (dC, dI) vwCl [(h0, .inr (11, [.ref h1, .ref r0, .ref r1, .ref h2, .ref h3, .ref h4, .ref r2, .ref h6, .ref r3, .ref h7, .ref r4, .ref r5, .ref r6, .ref r7, .int 0, .int 5, .long 0])), (h1, .inr (10, [.ref r8, .int 0, .int 0, .int (-1), .int 0])), (h2, .inr (4, [.ref r9, .ref r10, .ref r11, .ref r12, .int 0, .int (-1)])), (h3, .inr (5, [.ref r13, .ref r14, .int 0, .int 0])), (h6, .inr (0, [.ref r16, .int 0, .int 0])), (h7, .inr (9, [.ref h2, .ref h3, .ref r17, .ref r18, .ref r19, .ref r20, .ref r21, .ref r22, .int 0])), (h4, .inr (7, [.ref h5, .ref r15, .int 0, .int 0])), (h5, .inl (g0, 58, .inl (fun _ => 0)))] H := hP
    have hD : va_D A [(h0, .inr (11, [.ref h1, .ref r0, .ref r1, .ref h2, .ref h3, .ref h4, .ref r2, .ref h6, .ref r3, .ref h7, .ref r4, .ref r5, .ref r6, .ref r7, .int 0, .int 5, .long 0])), (h1, .inr (10, [.ref r8, .int 0, .int 0, .int (-1), .int 0])), (h2, .inr (4, [.ref r9, .ref r10, .ref r11, .ref r12, .int 0, .int (-1)])), (h3, .inr (5, [.ref r13, .ref r14, .int 0, .int 0])), (h6, .inr (0, [.ref r16, .int 0, .int 0])), (h7, .inr (9, [.ref h2, .ref h3, .ref r17, .ref r18, .ref r19, .ref r20, .ref r21, .ref r22, .int 0])), (h4, .inr (7, [.ref h5, .ref r15, .int 0, .int 0])), (h5, .inl (g0, 58, .inl (fun _ => 0)))] := hD
    obtain rfl : ra5 = (0 : Int32) := hw
    have hP9 := hP.sub (ws' := [(h0, .inr (11, [.ref h1, .ref r0, .ref r1, .ref h2, .ref h3, .ref h4, .ref r2, .ref h6, .ref r3, .ref h7, .ref r4, .ref r5, .ref r6, .ref r7, .int 0, .int 5, .long 0])), (h1, .inr (10, [.ref r8, .int 0, .int 0, .int (-1), .int 0])), (h2, .inr (4, [.ref r9, .ref r10, .ref r11, .ref r12, .int 0, .int (-1)])), (h4, .inr (7, [.ref h5, .ref r15, .int 0, .int 0])), (h5, .inl (g0, 58, .inl (fun _ => 0))), (h6, .inr (0, [.ref r16, .int 0, .int 0])), (h7, .inr (9, [.ref h2, .ref h3, .ref r17, .ref r18, .ref r19, .ref r20, .ref r21, .ref r22, .int 0])), (h3, .inr (5, [.ref r13, .ref r14, .int 0, .int 0]))]) [0, 1, 2, 6, 7, 4, 5, 3] rfl
    have hD9 := hD.sub (ws' := [(h0, .inr (11, [.ref h1, .ref r0, .ref r1, .ref h2, .ref h3, .ref h4, .ref r2, .ref h6, .ref r3, .ref h7, .ref r4, .ref r5, .ref r6, .ref r7, .int 0, .int 5, .long 0])), (h1, .inr (10, [.ref r8, .int 0, .int 0, .int (-1), .int 0])), (h2, .inr (4, [.ref r9, .ref r10, .ref r11, .ref r12, .int 0, .int (-1)])), (h4, .inr (7, [.ref h5, .ref r15, .int 0, .int 0])), (h5, .inl (g0, 58, .inl (fun _ => 0))), (h6, .inr (0, [.ref r16, .int 0, .int 0])), (h7, .inr (9, [.ref h2, .ref h3, .ref r17, .ref r18, .ref r19, .ref r20, .ref r21, .ref r22, .int 0])), (h3, .inr (5, [.ref r13, .ref r14, .int 0, .int 0]))]) [0, 1, 2, 6, 7, 4, 5, 3] (by decide) rfl
    have hK9 := hK.sub (tys' := [(g0, .int)]) [0] rfl
    exact W.iret (v := 0) hx hb hr (fun t ht hW => ⟨⟨0, (), rfl, by rw [if_neg c1, if_pos c3], by rw [ht]; exact hP9, va_K.moved hW.alike hK9, hD9⟩, hS.F ht⟩) hS.2.2 dX11_count_74
  by_cases c6 : v0 = 2
  · skip
    refine lv_tableIn (off := 74) (tgt := 75) hx hb dX11_count_1 (by rw [c6]; decide) (by rw [c6]; decide) (by rw [c6]; rfl) (by decide) ?_
    refine lv_aload_n hx hb dX11_count_75 rfl (lv_at hl 0 rfl) ?_
    refine va_get (D := (dC, dI)) (ci := 11) (v := .ref h2) (C := RX11) (T := TX11) (N := 17) hx hb hts (fun _ h => List.mem_cons_of_mem _ (List.mem_append_left _ (List.mem_append_left _ (List.mem_append_left _ (List.mem_append_left _ (List.mem_append_left _ (List.mem_append_left _ (List.mem_append_right _ h)))))))) hown hK hP 0 rfl rfl 3 (by decide) (hts (.fieldLink RX11 35 "LeftArguments" "laws" "LLeftArguments$Laws;") (List.mem_cons_of_mem _ (List.mem_append_left _ (List.mem_append_left _ (List.mem_append_left _ (List.mem_append_left _ (List.mem_append_left _ (List.mem_append_left _ (List.mem_append_left _ (List.mem_of_getElem? (i := 29) rfl)))))))))) (fun _ h9 => h9) rfl dX11_count_76 ?_
    have hPc := hP.sub (ws' := [(h2, .inr (4, [.ref r9, .ref r10, .ref r11, .ref r12, .int 0, .int (-1)]))]) [2] rfl
    have hDc := hD.sub (ws' := [(h2, .inr (4, [.ref r9, .ref r10, .ref r11, .ref r12, .int 0, .int (-1)]))]) [2] (by decide) rfl
    have hKc := hK.sub (tys' := []) [] rfl
    have hFc := va_free (wc := [(h2, .inr (4, [.ref r9, .ref r10, .ref r11, .ref r12, .int 0, .int (-1)]))]) hD hS hA [2] rfl
    refine va_calli (va_runV (As := []) (rest := []) ⟨hx, hb, hml, hown, hts⟩ (k_X4_number l dC dI h2 r9 r10 r11 r12  s.heap.size) (cwV 0 hts g_X11_count_3 rfl rfl rfl (by decide +kernel) ⟨Nat.le_of_ble_eq_true rfl, Nat.le_of_ble_eq_true rfl⟩) ⟨fun a U g mk q => by obtain ⟨q0, q1, qP, qK, qD⟩ := q; exact ⟨q0, q1, qP, va_K.moved (u := U) (U := U.calling g mk a) (Vm.Alike.refl U.vm) qK, qD⟩, va_recv hKc hPc (ci := 4) (q0 := 0) rfl rfl, fun U hU hW => ⟨rfl, by rw [hU], by rw [hU]; exact hPc, va_K.moved hW.alike hKc, hDc.weaken (fun _ _ _ _ => trivial)⟩⟩ rfl rfl hl.1 rfl (lv_room (Nat.le_of_ble_eq_true rfl)) dX11_count_79 ⟨Nat.le_of_ble_eq_true rfl, Nat.le_of_ble_eq_true rfl⟩) hS (fun q _ h => hFc q h) hFc (fun ra7 u t H1 locs ht hvm hw hB hz1 hk1 hS => ?_)
    obtain ⟨hP1, hK1, hD1⟩ := hB
    rw [ht] at hP1
    obtain ⟨hP, hD⟩ := va_join (wr := [(h0, .inr (11, [.ref h1, .ref r0, .ref r1, .ref h2, .ref h3, .ref h4, .ref r2, .ref h6, .ref r3, .ref h7, .ref r4, .ref r5, .ref r6, .ref r7, .int 0, .int 5, .long 0])), (h1, .inr (10, [.ref r8, .int 0, .int 0, .int (-1), .int 0])), (h3, .inr (5, [.ref r13, .ref r14, .int 0, .int 0])), (h4, .inr (7, [.ref h5, .ref r15, .int 0, .int 0])), (h5, .inl (g0, 58, .inl (fun _ => 0))), (h6, .inr (0, [.ref r16, .int 0, .int 0])), (h7, .inr (9, [.ref h2, .ref h3, .ref r17, .ref r18, .ref r19, .ref r20, .ref r21, .ref r22, .int 0]))]) (w1 := [(h2, .inr (4, [.ref r9, .ref r10, .ref r11, .ref r12, .int 0, .int (-1)]))]) hP hD [2] [0, 1, 3, 4, 5, 6, 7] rfl rfl (by decide) (by decide) hk1 hFc hP1 hD1
    generalize H1 = H at hP hS ⊢
    have hP : va_P (dC, dI) vwCl [(h0, .inr (11, [.ref h1, .ref r0, .ref r1, .ref h2, .ref h3, .ref h4, .ref r2, .ref h6, .ref r3, .ref h7, .ref r4, .ref r5, .ref r6, .ref r7, .int 0, .int 5, .long 0])), (h1, .inr (10, [.ref r8, .int 0, .int 0, .int (-1), .int 0])), (h3, .inr (5, [.ref r13, .ref r14, .int 0, .int 0])), (h4, .inr (7, [.ref h5, .ref r15, .int 0, .int 0])), (h5, .inl (g0, 58, .inl (fun _ => 0))), (h6, .inr (0, [.ref r16, .int 0, .int 0])), (h7, .inr (9, [.ref h2, .ref h3, .ref r17, .ref r18, .ref r19, .ref r20, .ref r21, .ref r22, .int 0])), (h2, .inr (4, [.ref r9, .ref r10, .ref r11, .ref r12, .int 0, .int (-1)]))] H := hP
    have hD : va_D A [(h0, .inr (11, [.ref h1, .ref r0, .ref r1, .ref h2, .ref h3, .ref h4, .ref r2, .ref h6, .ref r3, .ref h7, .ref r4, .ref r5, .ref r6, .ref r7, .int 0, .int 5, .long 0])), (h1, .inr (10, [.ref r8, .int 0, .int 0, .int (-1), .int 0])), (h3, .inr (5, [.ref r13, .ref r14, .int 0, .int 0])), (h4, .inr (7, [.ref h5, .ref r15, .int 0, .int 0])), (h5, .inl (g0, 58, .inl (fun _ => 0))), (h6, .inr (0, [.ref r16, .int 0, .int 0])), (h7, .inr (9, [.ref h2, .ref h3, .ref r17, .ref r18, .ref r19, .ref r20, .ref r21, .ref r22, .int 0])), (h2, .inr (4, [.ref r9, .ref r10, .ref r11, .ref r12, .int 0, .int (-1)]))] := hD
    obtain rfl : ra7 = (0 : Int32) := hw
    have hP9 := hP.sub (ws' := [(h0, .inr (11, [.ref h1, .ref r0, .ref r1, .ref h2, .ref h3, .ref h4, .ref r2, .ref h6, .ref r3, .ref h7, .ref r4, .ref r5, .ref r6, .ref r7, .int 0, .int 5, .long 0])), (h1, .inr (10, [.ref r8, .int 0, .int 0, .int (-1), .int 0])), (h2, .inr (4, [.ref r9, .ref r10, .ref r11, .ref r12, .int 0, .int (-1)])), (h4, .inr (7, [.ref h5, .ref r15, .int 0, .int 0])), (h5, .inl (g0, 58, .inl (fun _ => 0))), (h6, .inr (0, [.ref r16, .int 0, .int 0])), (h7, .inr (9, [.ref h2, .ref h3, .ref r17, .ref r18, .ref r19, .ref r20, .ref r21, .ref r22, .int 0])), (h3, .inr (5, [.ref r13, .ref r14, .int 0, .int 0]))]) [0, 1, 7, 3, 4, 5, 6, 2] rfl
    have hD9 := hD.sub (ws' := [(h0, .inr (11, [.ref h1, .ref r0, .ref r1, .ref h2, .ref h3, .ref h4, .ref r2, .ref h6, .ref r3, .ref h7, .ref r4, .ref r5, .ref r6, .ref r7, .int 0, .int 5, .long 0])), (h1, .inr (10, [.ref r8, .int 0, .int 0, .int (-1), .int 0])), (h2, .inr (4, [.ref r9, .ref r10, .ref r11, .ref r12, .int 0, .int (-1)])), (h4, .inr (7, [.ref h5, .ref r15, .int 0, .int 0])), (h5, .inl (g0, 58, .inl (fun _ => 0))), (h6, .inr (0, [.ref r16, .int 0, .int 0])), (h7, .inr (9, [.ref h2, .ref h3, .ref r17, .ref r18, .ref r19, .ref r20, .ref r21, .ref r22, .int 0])), (h3, .inr (5, [.ref r13, .ref r14, .int 0, .int 0]))]) [0, 1, 7, 3, 4, 5, 6, 2] (by decide) rfl
    have hK9 := hK.sub (tys' := [(g0, .int)]) [0] rfl
    exact W.iret (v := 0) hx hb hr (fun t ht hW => ⟨⟨0, (), rfl, by rw [if_neg c1, if_neg c3, if_pos c6], by rw [ht]; exact hP9, va_K.moved hW.alike hK9, hD9⟩, hS.F ht⟩) hS.2.2 dX11_count_82
  by_cases c8 : v0 = 3
  · skip
    refine lv_tableIn (off := 82) (tgt := 83) hx hb dX11_count_1 (by rw [c8]; decide) (by rw [c8]; decide) (by rw [c8]; rfl) (by decide) ?_
    refine lv_aload_n hx hb dX11_count_83 rfl (lv_at hl 0 rfl) ?_
    refine va_get (D := (dC, dI)) (ci := 11) (v := .ref h1) (C := RX11) (T := TX11) (N := 17) hx hb hts (fun _ h => List.mem_cons_of_mem _ (List.mem_append_left _ (List.mem_append_left _ (List.mem_append_left _ (List.mem_append_left _ (List.mem_append_left _ (List.mem_append_left _ (List.mem_append_right _ h)))))))) hown hK hP 0 rfl rfl 0 (by decide) (hts (.fieldLink RX11 10 "LeftArguments" "tape" "LLeftArguments$Tape;") (List.mem_cons_of_mem _ (List.mem_append_left _ (List.mem_append_left _ (List.mem_append_left _ (List.mem_append_left _ (List.mem_append_left _ (List.mem_append_left _ (List.mem_append_left _ (List.mem_of_getElem? (i := 36) rfl)))))))))) (fun _ h9 => h9) rfl dX11_count_84 ?_
    have hPc := hP.sub (ws' := [(h1, .inr (10, [.ref r8, .int 0, .int 0, .int (-1), .int 0]))]) [1] rfl
    have hDc := hD.sub (ws' := [(h1, .inr (10, [.ref r8, .int 0, .int 0, .int (-1), .int 0]))]) [1] (by decide) rfl
    have hKc := hK.sub (tys' := []) [] rfl
    have hFc := va_free (wc := [(h1, .inr (10, [.ref r8, .int 0, .int 0, .int (-1), .int 0]))]) hD hS hA [1] rfl
    refine va_calli (va_runV (As := []) (rest := []) ⟨hx, hb, hml, hown, hts⟩ (k_X10_used l dC dI h1 r8  s.heap.size) (cwV 0 hts g_X11_count_4 rfl rfl rfl (by decide +kernel) ⟨Nat.le_of_ble_eq_true rfl, Nat.le_of_ble_eq_true rfl⟩) ⟨fun a U g mk q => by obtain ⟨q0, q1, qP, qK, qD⟩ := q; exact ⟨q0, q1, qP, va_K.moved (u := U) (U := U.calling g mk a) (Vm.Alike.refl U.vm) qK, qD⟩, va_recv hKc hPc (ci := 10) (q0 := 0) rfl rfl, fun U hU hW => ⟨rfl, by rw [hU], by rw [hU]; exact hPc, va_K.moved hW.alike hKc, hDc.weaken (fun _ _ _ _ => trivial)⟩⟩ rfl rfl hl.1 rfl (lv_room (Nat.le_of_ble_eq_true rfl)) dX11_count_87 ⟨Nat.le_of_ble_eq_true rfl, Nat.le_of_ble_eq_true rfl⟩) hS (fun q _ h => hFc q h) hFc (fun ra9 u t H1 locs ht hvm hw hB hz1 hk1 hS => ?_)
    obtain ⟨hP1, hK1, hD1⟩ := hB
    rw [ht] at hP1
    obtain ⟨hP, hD⟩ := va_join (wr := [(h0, .inr (11, [.ref h1, .ref r0, .ref r1, .ref h2, .ref h3, .ref h4, .ref r2, .ref h6, .ref r3, .ref h7, .ref r4, .ref r5, .ref r6, .ref r7, .int 0, .int 5, .long 0])), (h2, .inr (4, [.ref r9, .ref r10, .ref r11, .ref r12, .int 0, .int (-1)])), (h3, .inr (5, [.ref r13, .ref r14, .int 0, .int 0])), (h4, .inr (7, [.ref h5, .ref r15, .int 0, .int 0])), (h5, .inl (g0, 58, .inl (fun _ => 0))), (h6, .inr (0, [.ref r16, .int 0, .int 0])), (h7, .inr (9, [.ref h2, .ref h3, .ref r17, .ref r18, .ref r19, .ref r20, .ref r21, .ref r22, .int 0]))]) (w1 := [(h1, .inr (10, [.ref r8, .int 0, .int 0, .int (-1), .int 0]))]) hP hD [1] [0, 2, 3, 4, 5, 6, 7] rfl rfl (by decide) (by decide) hk1 hFc hP1 hD1
    generalize H1 = H at hP hS ⊢
    have hP : va_P (dC, dI) vwCl [(h0, .inr (11, [.ref h1, .ref r0, .ref r1, .ref h2, .ref h3, .ref h4, .ref r2, .ref h6, .ref r3, .ref h7, .ref r4, .ref r5, .ref r6, .ref r7, .int 0, .int 5, .long 0])), (h2, .inr (4, [.ref r9, .ref r10, .ref r11, .ref r12, .int 0, .int (-1)])), (h3, .inr (5, [.ref r13, .ref r14, .int 0, .int 0])), (h4, .inr (7, [.ref h5, .ref r15, .int 0, .int 0])), (h5, .inl (g0, 58, .inl (fun _ => 0))), (h6, .inr (0, [.ref r16, .int 0, .int 0])), (h7, .inr (9, [.ref h2, .ref h3, .ref r17, .ref r18, .ref r19, .ref r20, .ref r21, .ref r22, .int 0])), (h1, .inr (10, [.ref r8, .int 0, .int 0, .int (-1), .int 0]))] H := hP
    have hD : va_D A [(h0, .inr (11, [.ref h1, .ref r0, .ref r1, .ref h2, .ref h3, .ref h4, .ref r2, .ref h6, .ref r3, .ref h7, .ref r4, .ref r5, .ref r6, .ref r7, .int 0, .int 5, .long 0])), (h2, .inr (4, [.ref r9, .ref r10, .ref r11, .ref r12, .int 0, .int (-1)])), (h3, .inr (5, [.ref r13, .ref r14, .int 0, .int 0])), (h4, .inr (7, [.ref h5, .ref r15, .int 0, .int 0])), (h5, .inl (g0, 58, .inl (fun _ => 0))), (h6, .inr (0, [.ref r16, .int 0, .int 0])), (h7, .inr (9, [.ref h2, .ref h3, .ref r17, .ref r18, .ref r19, .ref r20, .ref r21, .ref r22, .int 0])), (h1, .inr (10, [.ref r8, .int 0, .int 0, .int (-1), .int 0]))] := hD
    obtain rfl : ra9 = (0 : Int32) := hw
    have hP9 := hP.sub (ws' := [(h0, .inr (11, [.ref h1, .ref r0, .ref r1, .ref h2, .ref h3, .ref h4, .ref r2, .ref h6, .ref r3, .ref h7, .ref r4, .ref r5, .ref r6, .ref r7, .int 0, .int 5, .long 0])), (h1, .inr (10, [.ref r8, .int 0, .int 0, .int (-1), .int 0])), (h2, .inr (4, [.ref r9, .ref r10, .ref r11, .ref r12, .int 0, .int (-1)])), (h4, .inr (7, [.ref h5, .ref r15, .int 0, .int 0])), (h5, .inl (g0, 58, .inl (fun _ => 0))), (h6, .inr (0, [.ref r16, .int 0, .int 0])), (h7, .inr (9, [.ref h2, .ref h3, .ref r17, .ref r18, .ref r19, .ref r20, .ref r21, .ref r22, .int 0])), (h3, .inr (5, [.ref r13, .ref r14, .int 0, .int 0]))]) [0, 7, 1, 3, 4, 5, 6, 2] rfl
    have hD9 := hD.sub (ws' := [(h0, .inr (11, [.ref h1, .ref r0, .ref r1, .ref h2, .ref h3, .ref h4, .ref r2, .ref h6, .ref r3, .ref h7, .ref r4, .ref r5, .ref r6, .ref r7, .int 0, .int 5, .long 0])), (h1, .inr (10, [.ref r8, .int 0, .int 0, .int (-1), .int 0])), (h2, .inr (4, [.ref r9, .ref r10, .ref r11, .ref r12, .int 0, .int (-1)])), (h4, .inr (7, [.ref h5, .ref r15, .int 0, .int 0])), (h5, .inl (g0, 58, .inl (fun _ => 0))), (h6, .inr (0, [.ref r16, .int 0, .int 0])), (h7, .inr (9, [.ref h2, .ref h3, .ref r17, .ref r18, .ref r19, .ref r20, .ref r21, .ref r22, .int 0])), (h3, .inr (5, [.ref r13, .ref r14, .int 0, .int 0]))]) [0, 7, 1, 3, 4, 5, 6, 2] (by decide) rfl
    have hK9 := hK.sub (tys' := [(g0, .int)]) [0] rfl
    exact W.iret (v := 0) hx hb hr (fun t ht hW => ⟨⟨0, (), rfl, by rw [if_neg c1, if_neg c3, if_neg c6, if_pos c8], by rw [ht]; exact hP9, va_K.moved hW.alike hK9, hD9⟩, hS.F ht⟩) hS.2.2 dX11_count_90
  by_cases c10 : v0 = 4
  · skip
    refine lv_tableIn (off := 90) (tgt := 91) hx hb dX11_count_1 (by rw [c10]; decide) (by rw [c10]; decide) (by rw [c10]; rfl) (by decide) ?_
    refine lv_aload_n hx hb dX11_count_91 rfl (lv_at hl 0 rfl) ?_
    refine va_get (D := (dC, dI)) (ci := 11) (v := .ref h2) (C := RX11) (T := TX11) (N := 17) hx hb hts (fun _ h => List.mem_cons_of_mem _ (List.mem_append_left _ (List.mem_append_left _ (List.mem_append_left _ (List.mem_append_left _ (List.mem_append_left _ (List.mem_append_left _ (List.mem_append_right _ h)))))))) hown hK hP 0 rfl rfl 3 (by decide) (hts (.fieldLink RX11 35 "LeftArguments" "laws" "LLeftArguments$Laws;") (List.mem_cons_of_mem _ (List.mem_append_left _ (List.mem_append_left _ (List.mem_append_left _ (List.mem_append_left _ (List.mem_append_left _ (List.mem_append_left _ (List.mem_append_left _ (List.mem_of_getElem? (i := 29) rfl)))))))))) (fun _ h9 => h9) rfl dX11_count_92 ?_
    have hPc := hP.sub (ws' := [(h2, .inr (4, [.ref r9, .ref r10, .ref r11, .ref r12, .int 0, .int (-1)]))]) [2] rfl
    have hDc := hD.sub (ws' := [(h2, .inr (4, [.ref r9, .ref r10, .ref r11, .ref r12, .int 0, .int (-1)]))]) [2] (by decide) rfl
    have hKc := hK.sub (tys' := []) [] rfl
    have hFc := va_free (wc := [(h2, .inr (4, [.ref r9, .ref r10, .ref r11, .ref r12, .int 0, .int (-1)]))]) hD hS hA [2] rfl
    refine va_calli (va_runV (As := []) (rest := []) ⟨hx, hb, hml, hown, hts⟩ (k_X4_chosen l dC dI h2 r9 r10 r11 r12  s.heap.size) (cwV 0 hts g_X11_count_5 rfl rfl rfl (by decide +kernel) ⟨Nat.le_of_ble_eq_true rfl, Nat.le_of_ble_eq_true rfl⟩) ⟨fun a U g mk q => by obtain ⟨q0, q1, qP, qK, qD⟩ := q; exact ⟨q0, q1, qP, va_K.moved (u := U) (U := U.calling g mk a) (Vm.Alike.refl U.vm) qK, qD⟩, va_recv hKc hPc (ci := 4) (q0 := 0) rfl rfl, fun U hU hW => ⟨rfl, by rw [hU], by rw [hU]; exact hPc, va_K.moved hW.alike hKc, hDc.weaken (fun _ _ _ _ => trivial)⟩⟩ rfl rfl hl.1 rfl (lv_room (Nat.le_of_ble_eq_true rfl)) dX11_count_95 ⟨Nat.le_of_ble_eq_true rfl, Nat.le_of_ble_eq_true rfl⟩) hS (fun q _ h => hFc q h) hFc (fun ra11 u t H1 locs ht hvm hw hB hz1 hk1 hS => ?_)
    obtain ⟨hP1, hK1, hD1⟩ := hB
    rw [ht] at hP1
    obtain ⟨hP, hD⟩ := va_join (wr := [(h0, .inr (11, [.ref h1, .ref r0, .ref r1, .ref h2, .ref h3, .ref h4, .ref r2, .ref h6, .ref r3, .ref h7, .ref r4, .ref r5, .ref r6, .ref r7, .int 0, .int 5, .long 0])), (h1, .inr (10, [.ref r8, .int 0, .int 0, .int (-1), .int 0])), (h3, .inr (5, [.ref r13, .ref r14, .int 0, .int 0])), (h4, .inr (7, [.ref h5, .ref r15, .int 0, .int 0])), (h5, .inl (g0, 58, .inl (fun _ => 0))), (h6, .inr (0, [.ref r16, .int 0, .int 0])), (h7, .inr (9, [.ref h2, .ref h3, .ref r17, .ref r18, .ref r19, .ref r20, .ref r21, .ref r22, .int 0]))]) (w1 := [(h2, .inr (4, [.ref r9, .ref r10, .ref r11, .ref r12, .int 0, .int (-1)]))]) hP hD [2] [0, 1, 3, 4, 5, 6, 7] rfl rfl (by decide) (by decide) hk1 hFc hP1 hD1
    generalize H1 = H at hP hS ⊢
    have hP : va_P (dC, dI) vwCl [(h0, .inr (11, [.ref h1, .ref r0, .ref r1, .ref h2, .ref h3, .ref h4, .ref r2, .ref h6, .ref r3, .ref h7, .ref r4, .ref r5, .ref r6, .ref r7, .int 0, .int 5, .long 0])), (h1, .inr (10, [.ref r8, .int 0, .int 0, .int (-1), .int 0])), (h3, .inr (5, [.ref r13, .ref r14, .int 0, .int 0])), (h4, .inr (7, [.ref h5, .ref r15, .int 0, .int 0])), (h5, .inl (g0, 58, .inl (fun _ => 0))), (h6, .inr (0, [.ref r16, .int 0, .int 0])), (h7, .inr (9, [.ref h2, .ref h3, .ref r17, .ref r18, .ref r19, .ref r20, .ref r21, .ref r22, .int 0])), (h2, .inr (4, [.ref r9, .ref r10, .ref r11, .ref r12, .int 0, .int (-1)]))] H := hP
    have hD : va_D A [(h0, .inr (11, [.ref h1, .ref r0, .ref r1, .ref h2, .ref h3, .ref h4, .ref r2, .ref h6, .ref r3, .ref h7, .ref r4, .ref r5, .ref r6, .ref r7, .int 0, .int 5, .long 0])), (h1, .inr (10, [.ref r8, .int 0, .int 0, .int (-1), .int 0])), (h3, .inr (5, [.ref r13, .ref r14, .int 0, .int 0])), (h4, .inr (7, [.ref h5, .ref r15, .int 0, .int 0])), (h5, .inl (g0, 58, .inl (fun _ => 0))), (h6, .inr (0, [.ref r16, .int 0, .int 0])), (h7, .inr (9, [.ref h2, .ref h3, .ref r17, .ref r18, .ref r19, .ref r20, .ref r21, .ref r22, .int 0])), (h2, .inr (4, [.ref r9, .ref r10, .ref r11, .ref r12, .int 0, .int (-1)]))] := hD
    obtain rfl : ra11 = ((-1) : Int32) := hw
    have hP9 := hP.sub (ws' := [(h0, .inr (11, [.ref h1, .ref r0, .ref r1, .ref h2, .ref h3, .ref h4, .ref r2, .ref h6, .ref r3, .ref h7, .ref r4, .ref r5, .ref r6, .ref r7, .int 0, .int 5, .long 0])), (h1, .inr (10, [.ref r8, .int 0, .int 0, .int (-1), .int 0])), (h2, .inr (4, [.ref r9, .ref r10, .ref r11, .ref r12, .int 0, .int (-1)])), (h4, .inr (7, [.ref h5, .ref r15, .int 0, .int 0])), (h5, .inl (g0, 58, .inl (fun _ => 0))), (h6, .inr (0, [.ref r16, .int 0, .int 0])), (h7, .inr (9, [.ref h2, .ref h3, .ref r17, .ref r18, .ref r19, .ref r20, .ref r21, .ref r22, .int 0])), (h3, .inr (5, [.ref r13, .ref r14, .int 0, .int 0]))]) [0, 1, 7, 3, 4, 5, 6, 2] rfl
    have hD9 := hD.sub (ws' := [(h0, .inr (11, [.ref h1, .ref r0, .ref r1, .ref h2, .ref h3, .ref h4, .ref r2, .ref h6, .ref r3, .ref h7, .ref r4, .ref r5, .ref r6, .ref r7, .int 0, .int 5, .long 0])), (h1, .inr (10, [.ref r8, .int 0, .int 0, .int (-1), .int 0])), (h2, .inr (4, [.ref r9, .ref r10, .ref r11, .ref r12, .int 0, .int (-1)])), (h4, .inr (7, [.ref h5, .ref r15, .int 0, .int 0])), (h5, .inl (g0, 58, .inl (fun _ => 0))), (h6, .inr (0, [.ref r16, .int 0, .int 0])), (h7, .inr (9, [.ref h2, .ref h3, .ref r17, .ref r18, .ref r19, .ref r20, .ref r21, .ref r22, .int 0])), (h3, .inr (5, [.ref r13, .ref r14, .int 0, .int 0]))]) [0, 1, 7, 3, 4, 5, 6, 2] (by decide) rfl
    have hK9 := hK.sub (tys' := [(g0, .int)]) [0] rfl
    exact W.iret (v := (-1)) hx hb hr (fun t ht hW => ⟨⟨(-1), (), rfl, by rw [if_neg c1, if_neg c3, if_neg c6, if_neg c8, if_pos c10], by rw [ht]; exact hP9, va_K.moved hW.alike hK9, hD9⟩, hS.F ht⟩) hS.2.2 dX11_count_98
  by_cases c12 : v0 = 5
  · skip
    refine lv_tableIn (off := 98) (tgt := 99) hx hb dX11_count_1 (by rw [c12]; decide) (by rw [c12]; decide) (by rw [c12]; rfl) (by decide) ?_
    refine lv_aload_n hx hb dX11_count_99 rfl (lv_at hl 0 rfl) ?_
    refine va_get (D := (dC, dI)) (ci := 11) (v := .ref h4) (C := RX11) (T := TX11) (N := 17) hx hb hts (fun _ h => List.mem_cons_of_mem _ (List.mem_append_left _ (List.mem_append_left _ (List.mem_append_left _ (List.mem_append_left _ (List.mem_append_left _ (List.mem_append_left _ (List.mem_append_right _ h)))))))) hown hK hP 0 rfl rfl 5 (by decide) (hts (.fieldLink RX11 49 "LeftArguments" "room" "LLeftArguments$Room;") (List.mem_cons_of_mem _ (List.mem_append_left _ (List.mem_append_left _ (List.mem_append_left _ (List.mem_append_left _ (List.mem_append_left _ (List.mem_append_left _ (List.mem_append_left _ (List.mem_of_getElem? (i := 7) rfl)))))))))) (fun _ h9 => h9) rfl dX11_count_100 ?_
    have hPc := hP.sub (ws' := [(h4, .inr (7, [.ref h5, .ref r15, .int 0, .int 0])), (h5, .inl (g0, 58, .inl (fun _ => 0)))]) [4, 5] rfl
    have hDc := hD.sub (ws' := [(h4, .inr (7, [.ref h5, .ref r15, .int 0, .int 0])), (h5, .inl (g0, 58, .inl (fun _ => 0)))]) [4, 5] (by decide) rfl
    have hKc := hK.sub (tys' := [(g0, .int)]) [0] rfl
    have hFc := va_free (wc := [(h4, .inr (7, [.ref h5, .ref r15, .int 0, .int 0])), (h5, .inl (g0, 58, .inl (fun _ => 0)))]) hD hS hA [4, 5] rfl
    refine va_calli (va_runV (As := []) (rest := []) ⟨hx, hb, hml, hown, hts⟩ (k_X7_day l dC dI g0 h4 h5 r15  s.heap.size) (cwV 0 hts g_X11_count_6 rfl rfl rfl (by decide +kernel) ⟨Nat.le_of_ble_eq_true rfl, Nat.le_of_ble_eq_true rfl⟩) ⟨fun a U g mk q => by obtain ⟨q0, q1, qP, qK, qD⟩ := q; exact ⟨q0, q1, qP, va_K.moved (u := U) (U := U.calling g mk a) (Vm.Alike.refl U.vm) qK, qD⟩, va_recv hKc hPc (ci := 7) (q0 := 0) rfl rfl, fun U hU hW => ⟨rfl, by rw [hU], by rw [hU]; exact hPc, va_K.moved hW.alike hKc, hDc.weaken (fun _ _ _ _ => trivial)⟩⟩ rfl rfl hl.1 rfl (lv_room (Nat.le_of_ble_eq_true rfl)) dX11_count_103 ⟨Nat.le_of_ble_eq_true rfl, Nat.le_of_ble_eq_true rfl⟩) hS (fun q _ h => hFc q h) hFc (fun ra13 u t H1 locs ht hvm hw hB hz1 hk1 hS => ?_)
    obtain ⟨hP1, hK1, hD1⟩ := hB
    rw [ht] at hP1
    obtain ⟨hP, hD⟩ := va_join (wr := [(h0, .inr (11, [.ref h1, .ref r0, .ref r1, .ref h2, .ref h3, .ref h4, .ref r2, .ref h6, .ref r3, .ref h7, .ref r4, .ref r5, .ref r6, .ref r7, .int 0, .int 5, .long 0])), (h1, .inr (10, [.ref r8, .int 0, .int 0, .int (-1), .int 0])), (h2, .inr (4, [.ref r9, .ref r10, .ref r11, .ref r12, .int 0, .int (-1)])), (h3, .inr (5, [.ref r13, .ref r14, .int 0, .int 0])), (h6, .inr (0, [.ref r16, .int 0, .int 0])), (h7, .inr (9, [.ref h2, .ref h3, .ref r17, .ref r18, .ref r19, .ref r20, .ref r21, .ref r22, .int 0]))]) (w1 := [(h4, .inr (7, [.ref h5, .ref r15, .int 0, .int 0])), (h5, .inl (g0, 58, .inl (fun _ => 0)))]) hP hD [4, 5] [0, 1, 2, 3, 6, 7] rfl rfl (by decide) (by decide) hk1 hFc hP1 hD1
    generalize H1 = H at hP hS ⊢
    have hP : va_P (dC, dI) vwCl [(h0, .inr (11, [.ref h1, .ref r0, .ref r1, .ref h2, .ref h3, .ref h4, .ref r2, .ref h6, .ref r3, .ref h7, .ref r4, .ref r5, .ref r6, .ref r7, .int 0, .int 5, .long 0])), (h1, .inr (10, [.ref r8, .int 0, .int 0, .int (-1), .int 0])), (h2, .inr (4, [.ref r9, .ref r10, .ref r11, .ref r12, .int 0, .int (-1)])), (h3, .inr (5, [.ref r13, .ref r14, .int 0, .int 0])), (h6, .inr (0, [.ref r16, .int 0, .int 0])), (h7, .inr (9, [.ref h2, .ref h3, .ref r17, .ref r18, .ref r19, .ref r20, .ref r21, .ref r22, .int 0])), (h4, .inr (7, [.ref h5, .ref r15, .int 0, .int 0])), (h5, .inl (g0, 58, .inl (fun _ => 0)))] H := hP
    have hD : va_D A [(h0, .inr (11, [.ref h1, .ref r0, .ref r1, .ref h2, .ref h3, .ref h4, .ref r2, .ref h6, .ref r3, .ref h7, .ref r4, .ref r5, .ref r6, .ref r7, .int 0, .int 5, .long 0])), (h1, .inr (10, [.ref r8, .int 0, .int 0, .int (-1), .int 0])), (h2, .inr (4, [.ref r9, .ref r10, .ref r11, .ref r12, .int 0, .int (-1)])), (h3, .inr (5, [.ref r13, .ref r14, .int 0, .int 0])), (h6, .inr (0, [.ref r16, .int 0, .int 0])), (h7, .inr (9, [.ref h2, .ref h3, .ref r17, .ref r18, .ref r19, .ref r20, .ref r21, .ref r22, .int 0])), (h4, .inr (7, [.ref h5, .ref r15, .int 0, .int 0])), (h5, .inl (g0, 58, .inl (fun _ => 0)))] := hD
    obtain rfl : ra13 = (0 : Int32) := hw
    have hP9 := hP.sub (ws' := [(h0, .inr (11, [.ref h1, .ref r0, .ref r1, .ref h2, .ref h3, .ref h4, .ref r2, .ref h6, .ref r3, .ref h7, .ref r4, .ref r5, .ref r6, .ref r7, .int 0, .int 5, .long 0])), (h1, .inr (10, [.ref r8, .int 0, .int 0, .int (-1), .int 0])), (h2, .inr (4, [.ref r9, .ref r10, .ref r11, .ref r12, .int 0, .int (-1)])), (h4, .inr (7, [.ref h5, .ref r15, .int 0, .int 0])), (h5, .inl (g0, 58, .inl (fun _ => 0))), (h6, .inr (0, [.ref r16, .int 0, .int 0])), (h7, .inr (9, [.ref h2, .ref h3, .ref r17, .ref r18, .ref r19, .ref r20, .ref r21, .ref r22, .int 0])), (h3, .inr (5, [.ref r13, .ref r14, .int 0, .int 0]))]) [0, 1, 2, 6, 7, 4, 5, 3] rfl
    have hD9 := hD.sub (ws' := [(h0, .inr (11, [.ref h1, .ref r0, .ref r1, .ref h2, .ref h3, .ref h4, .ref r2, .ref h6, .ref r3, .ref h7, .ref r4, .ref r5, .ref r6, .ref r7, .int 0, .int 5, .long 0])), (h1, .inr (10, [.ref r8, .int 0, .int 0, .int (-1), .int 0])), (h2, .inr (4, [.ref r9, .ref r10, .ref r11, .ref r12, .int 0, .int (-1)])), (h4, .inr (7, [.ref h5, .ref r15, .int 0, .int 0])), (h5, .inl (g0, 58, .inl (fun _ => 0))), (h6, .inr (0, [.ref r16, .int 0, .int 0])), (h7, .inr (9, [.ref h2, .ref h3, .ref r17, .ref r18, .ref r19, .ref r20, .ref r21, .ref r22, .int 0])), (h3, .inr (5, [.ref r13, .ref r14, .int 0, .int 0]))]) [0, 1, 2, 6, 7, 4, 5, 3] (by decide) rfl
    have hK9 := hK.sub (tys' := [(g0, .int)]) [0] rfl
    exact W.iret (v := 0) hx hb hr (fun t ht hW => ⟨⟨0, (), rfl, by rw [if_neg c1, if_neg c3, if_neg c6, if_neg c8, if_neg c10, if_pos c12], by rw [ht]; exact hP9, va_K.moved hW.alike hK9, hD9⟩, hS.F ht⟩) hS.2.2 dX11_count_106
  by_cases c14 : v0 = 6
  · skip
    refine lv_tableIn (off := 106) (tgt := 107) hx hb dX11_count_1 (by rw [c14]; decide) (by rw [c14]; decide) (by rw [c14]; rfl) (by decide) ?_
    refine lv_aload_n hx hb dX11_count_107 rfl (lv_at hl 0 rfl) ?_
    refine va_get (D := (dC, dI)) (ci := 11) (v := .int 5) (C := RX11) (T := TX11) (N := 17) hx hb hts (fun _ h => List.mem_cons_of_mem _ (List.mem_append_left _ (List.mem_append_left _ (List.mem_append_left _ (List.mem_append_left _ (List.mem_append_left _ (List.mem_append_left _ (List.mem_append_right _ h)))))))) hown hK hP 0 rfl rfl 15 (by decide) (hts (.fieldLink RX11 104 "LeftArguments" "trainOdds" "I") (List.mem_cons_of_mem _ (List.mem_append_left _ (List.mem_append_left _ (List.mem_append_left _ (List.mem_append_left _ (List.mem_append_left _ (List.mem_append_left _ (List.mem_append_left _ (List.mem_of_getElem? (i := 52) rfl)))))))))) (fun _ h9 => h9) rfl dX11_count_108 ?_
    have hP9 := hP.sub (ws' := [(h0, .inr (11, [.ref h1, .ref r0, .ref r1, .ref h2, .ref h3, .ref h4, .ref r2, .ref h6, .ref r3, .ref h7, .ref r4, .ref r5, .ref r6, .ref r7, .int 0, .int 5, .long 0])), (h1, .inr (10, [.ref r8, .int 0, .int 0, .int (-1), .int 0])), (h2, .inr (4, [.ref r9, .ref r10, .ref r11, .ref r12, .int 0, .int (-1)])), (h4, .inr (7, [.ref h5, .ref r15, .int 0, .int 0])), (h5, .inl (g0, 58, .inl (fun _ => 0))), (h6, .inr (0, [.ref r16, .int 0, .int 0])), (h7, .inr (9, [.ref h2, .ref h3, .ref r17, .ref r18, .ref r19, .ref r20, .ref r21, .ref r22, .int 0])), (h3, .inr (5, [.ref r13, .ref r14, .int 0, .int 0]))]) [0, 1, 2, 4, 5, 6, 7, 3] rfl
    have hD9 := hD.sub (ws' := [(h0, .inr (11, [.ref h1, .ref r0, .ref r1, .ref h2, .ref h3, .ref h4, .ref r2, .ref h6, .ref r3, .ref h7, .ref r4, .ref r5, .ref r6, .ref r7, .int 0, .int 5, .long 0])), (h1, .inr (10, [.ref r8, .int 0, .int 0, .int (-1), .int 0])), (h2, .inr (4, [.ref r9, .ref r10, .ref r11, .ref r12, .int 0, .int (-1)])), (h4, .inr (7, [.ref h5, .ref r15, .int 0, .int 0])), (h5, .inl (g0, 58, .inl (fun _ => 0))), (h6, .inr (0, [.ref r16, .int 0, .int 0])), (h7, .inr (9, [.ref h2, .ref h3, .ref r17, .ref r18, .ref r19, .ref r20, .ref r21, .ref r22, .int 0])), (h3, .inr (5, [.ref r13, .ref r14, .int 0, .int 0]))]) [0, 1, 2, 4, 5, 6, 7, 3] (by decide) rfl
    have hK9 := hK.sub (tys' := [(g0, .int)]) [0] rfl
    exact W.iret (v := 5) hx hb hr (fun t ht hW => ⟨⟨5, (), rfl, by rw [if_neg c1, if_neg c3, if_neg c6, if_neg c8, if_neg c10, if_neg c12, if_pos c14], by rw [ht]; exact hP9, va_K.moved hW.alike hK9, hD9⟩, hS.F ht⟩) hS.2.2 dX11_count_111
  by_cases c15 : v0 = 7
  · skip
    refine lv_tableIn (off := 111) (tgt := 112) hx hb dX11_count_1 (by rw [c15]; decide) (by rw [c15]; decide) (by rw [c15]; rfl) (by decide) ?_
    refine lv_aload_n hx hb dX11_count_112 rfl (lv_at hl 0 rfl) ?_
    refine va_get (D := (dC, dI)) (ci := 11) (v := .ref h7) (C := RX11) (T := TX11) (N := 17) hx hb hts (fun _ h => List.mem_cons_of_mem _ (List.mem_append_left _ (List.mem_append_left _ (List.mem_append_left _ (List.mem_append_left _ (List.mem_append_left _ (List.mem_append_left _ (List.mem_append_right _ h)))))))) hown hK hP 0 rfl rfl 9 (by decide) (hts (.fieldLink RX11 79 "LeftArguments" "sightings" "LLeftArguments$Sightings;") (List.mem_cons_of_mem _ (List.mem_append_left _ (List.mem_append_left _ (List.mem_append_left _ (List.mem_append_left _ (List.mem_append_left _ (List.mem_append_left _ (List.mem_append_left _ (List.mem_of_getElem? (i := 53) rfl)))))))))) (fun _ h9 => h9) rfl dX11_count_113 ?_
    have hPc := hP.sub (ws' := [(h7, .inr (9, [.ref h2, .ref h3, .ref r17, .ref r18, .ref r19, .ref r20, .ref r21, .ref r22, .int 0]))]) [7] rfl
    have hDc := hD.sub (ws' := [(h7, .inr (9, [.ref h2, .ref h3, .ref r17, .ref r18, .ref r19, .ref r20, .ref r21, .ref r22, .int 0]))]) [7] (by decide) rfl
    have hKc := hK.sub (tys' := []) [] rfl
    have hFc := va_free (wc := [(h7, .inr (9, [.ref h2, .ref h3, .ref r17, .ref r18, .ref r19, .ref r20, .ref r21, .ref r22, .int 0]))]) hD hS hA [7] rfl
    refine va_calli (va_runV (As := []) (rest := []) ⟨hx, hb, hml, hown, hts⟩ (k_X9_number l dC dI h7 h2 h3 r17 r18 r19 r20 r21 r22  s.heap.size) (cwV 0 hts g_X11_count_7 rfl rfl rfl (by decide +kernel) ⟨Nat.le_of_ble_eq_true rfl, Nat.le_of_ble_eq_true rfl⟩) ⟨fun a U g mk q => by obtain ⟨q0, q1, qP, qK, qD⟩ := q; exact ⟨q0, q1, qP, va_K.moved (u := U) (U := U.calling g mk a) (Vm.Alike.refl U.vm) qK, qD⟩, va_recv hKc hPc (ci := 9) (q0 := 0) rfl rfl, fun U hU hW => ⟨rfl, by rw [hU], by rw [hU]; exact hPc, va_K.moved hW.alike hKc, hDc.weaken (fun _ _ _ _ => trivial)⟩⟩ rfl rfl hl.1 rfl (lv_room (Nat.le_of_ble_eq_true rfl)) dX11_count_116 ⟨Nat.le_of_ble_eq_true rfl, Nat.le_of_ble_eq_true rfl⟩) hS (fun q _ h => hFc q h) hFc (fun ra16 u t H1 locs ht hvm hw hB hz1 hk1 hS => ?_)
    obtain ⟨hP1, hK1, hD1⟩ := hB
    rw [ht] at hP1
    obtain ⟨hP, hD⟩ := va_join (wr := [(h0, .inr (11, [.ref h1, .ref r0, .ref r1, .ref h2, .ref h3, .ref h4, .ref r2, .ref h6, .ref r3, .ref h7, .ref r4, .ref r5, .ref r6, .ref r7, .int 0, .int 5, .long 0])), (h1, .inr (10, [.ref r8, .int 0, .int 0, .int (-1), .int 0])), (h2, .inr (4, [.ref r9, .ref r10, .ref r11, .ref r12, .int 0, .int (-1)])), (h3, .inr (5, [.ref r13, .ref r14, .int 0, .int 0])), (h4, .inr (7, [.ref h5, .ref r15, .int 0, .int 0])), (h5, .inl (g0, 58, .inl (fun _ => 0))), (h6, .inr (0, [.ref r16, .int 0, .int 0]))]) (w1 := [(h7, .inr (9, [.ref h2, .ref h3, .ref r17, .ref r18, .ref r19, .ref r20, .ref r21, .ref r22, .int 0]))]) hP hD [7] [0, 1, 2, 3, 4, 5, 6] rfl rfl (by decide) (by decide) hk1 hFc hP1 hD1
    generalize H1 = H at hP hS ⊢
    have hP : va_P (dC, dI) vwCl [(h0, .inr (11, [.ref h1, .ref r0, .ref r1, .ref h2, .ref h3, .ref h4, .ref r2, .ref h6, .ref r3, .ref h7, .ref r4, .ref r5, .ref r6, .ref r7, .int 0, .int 5, .long 0])), (h1, .inr (10, [.ref r8, .int 0, .int 0, .int (-1), .int 0])), (h2, .inr (4, [.ref r9, .ref r10, .ref r11, .ref r12, .int 0, .int (-1)])), (h3, .inr (5, [.ref r13, .ref r14, .int 0, .int 0])), (h4, .inr (7, [.ref h5, .ref r15, .int 0, .int 0])), (h5, .inl (g0, 58, .inl (fun _ => 0))), (h6, .inr (0, [.ref r16, .int 0, .int 0])), (h7, .inr (9, [.ref h2, .ref h3, .ref r17, .ref r18, .ref r19, .ref r20, .ref r21, .ref r22, .int 0]))] H := hP
    have hD : va_D A [(h0, .inr (11, [.ref h1, .ref r0, .ref r1, .ref h2, .ref h3, .ref h4, .ref r2, .ref h6, .ref r3, .ref h7, .ref r4, .ref r5, .ref r6, .ref r7, .int 0, .int 5, .long 0])), (h1, .inr (10, [.ref r8, .int 0, .int 0, .int (-1), .int 0])), (h2, .inr (4, [.ref r9, .ref r10, .ref r11, .ref r12, .int 0, .int (-1)])), (h3, .inr (5, [.ref r13, .ref r14, .int 0, .int 0])), (h4, .inr (7, [.ref h5, .ref r15, .int 0, .int 0])), (h5, .inl (g0, 58, .inl (fun _ => 0))), (h6, .inr (0, [.ref r16, .int 0, .int 0])), (h7, .inr (9, [.ref h2, .ref h3, .ref r17, .ref r18, .ref r19, .ref r20, .ref r21, .ref r22, .int 0]))] := hD
    obtain rfl : ra16 = (0 : Int32) := hw
    have hP9 := hP.sub (ws' := [(h0, .inr (11, [.ref h1, .ref r0, .ref r1, .ref h2, .ref h3, .ref h4, .ref r2, .ref h6, .ref r3, .ref h7, .ref r4, .ref r5, .ref r6, .ref r7, .int 0, .int 5, .long 0])), (h1, .inr (10, [.ref r8, .int 0, .int 0, .int (-1), .int 0])), (h2, .inr (4, [.ref r9, .ref r10, .ref r11, .ref r12, .int 0, .int (-1)])), (h4, .inr (7, [.ref h5, .ref r15, .int 0, .int 0])), (h5, .inl (g0, 58, .inl (fun _ => 0))), (h6, .inr (0, [.ref r16, .int 0, .int 0])), (h7, .inr (9, [.ref h2, .ref h3, .ref r17, .ref r18, .ref r19, .ref r20, .ref r21, .ref r22, .int 0])), (h3, .inr (5, [.ref r13, .ref r14, .int 0, .int 0]))]) [0, 1, 2, 4, 5, 6, 7, 3] rfl
    have hD9 := hD.sub (ws' := [(h0, .inr (11, [.ref h1, .ref r0, .ref r1, .ref h2, .ref h3, .ref h4, .ref r2, .ref h6, .ref r3, .ref h7, .ref r4, .ref r5, .ref r6, .ref r7, .int 0, .int 5, .long 0])), (h1, .inr (10, [.ref r8, .int 0, .int 0, .int (-1), .int 0])), (h2, .inr (4, [.ref r9, .ref r10, .ref r11, .ref r12, .int 0, .int (-1)])), (h4, .inr (7, [.ref h5, .ref r15, .int 0, .int 0])), (h5, .inl (g0, 58, .inl (fun _ => 0))), (h6, .inr (0, [.ref r16, .int 0, .int 0])), (h7, .inr (9, [.ref h2, .ref h3, .ref r17, .ref r18, .ref r19, .ref r20, .ref r21, .ref r22, .int 0])), (h3, .inr (5, [.ref r13, .ref r14, .int 0, .int 0]))]) [0, 1, 2, 4, 5, 6, 7, 3] (by decide) rfl
    have hK9 := hK.sub (tys' := [(g0, .int)]) [0] rfl
    exact W.iret (v := 0) hx hb hr (fun t ht hW => ⟨⟨0, (), rfl, by rw [if_neg c1, if_neg c3, if_neg c6, if_neg c8, if_neg c10, if_neg c12, if_neg c14, if_pos c15], by rw [ht]; exact hP9, va_K.moved hW.alike hK9, hD9⟩, hS.F ht⟩) hS.2.2 dX11_count_119
  by_cases c17 : v0 = 8
  · skip
    refine lv_tableIn (off := 119) (tgt := 120) hx hb dX11_count_1 (by rw [c17]; decide) (by rw [c17]; decide) (by rw [c17]; rfl) (by decide) ?_
    refine lv_aload_n hx hb dX11_count_120 rfl (lv_at hl 0 rfl) ?_
    refine va_get (D := (dC, dI)) (ci := 11) (v := .ref h4) (C := RX11) (T := TX11) (N := 17) hx hb hts (fun _ h => List.mem_cons_of_mem _ (List.mem_append_left _ (List.mem_append_left _ (List.mem_append_left _ (List.mem_append_left _ (List.mem_append_left _ (List.mem_append_left _ (List.mem_append_right _ h)))))))) hown hK hP 0 rfl rfl 5 (by decide) (hts (.fieldLink RX11 49 "LeftArguments" "room" "LLeftArguments$Room;") (List.mem_cons_of_mem _ (List.mem_append_left _ (List.mem_append_left _ (List.mem_append_left _ (List.mem_append_left _ (List.mem_append_left _ (List.mem_append_left _ (List.mem_append_left _ (List.mem_of_getElem? (i := 7) rfl)))))))))) (fun _ h9 => h9) rfl dX11_count_121 ?_
    have hPc := hP.sub (ws' := [(h4, .inr (7, [.ref h5, .ref r15, .int 0, .int 0])), (h5, .inl (g0, 58, .inl (fun _ => 0)))]) [4, 5] rfl
    have hDc := hD.sub (ws' := [(h4, .inr (7, [.ref h5, .ref r15, .int 0, .int 0])), (h5, .inl (g0, 58, .inl (fun _ => 0)))]) [4, 5] (by decide) rfl
    have hKc := hK.sub (tys' := [(g0, .int)]) [0] rfl
    have hFc := va_free (wc := [(h4, .inr (7, [.ref h5, .ref r15, .int 0, .int 0])), (h5, .inl (g0, 58, .inl (fun _ => 0)))]) hD hS hA [4, 5] rfl
    refine va_calli (va_runV (As := []) (rest := []) ⟨hx, hb, hml, hown, hts⟩ (k_X7_day l dC dI g0 h4 h5 r15  s.heap.size) (cwV 0 hts g_X11_count_8 rfl rfl rfl (by decide +kernel) ⟨Nat.le_of_ble_eq_true rfl, Nat.le_of_ble_eq_true rfl⟩) ⟨fun a U g mk q => by obtain ⟨q0, q1, qP, qK, qD⟩ := q; exact ⟨q0, q1, qP, va_K.moved (u := U) (U := U.calling g mk a) (Vm.Alike.refl U.vm) qK, qD⟩, va_recv hKc hPc (ci := 7) (q0 := 0) rfl rfl, fun U hU hW => ⟨rfl, by rw [hU], by rw [hU]; exact hPc, va_K.moved hW.alike hKc, hDc.weaken (fun _ _ _ _ => trivial)⟩⟩ rfl rfl hl.1 rfl (lv_room (Nat.le_of_ble_eq_true rfl)) dX11_count_124 ⟨Nat.le_of_ble_eq_true rfl, Nat.le_of_ble_eq_true rfl⟩) hS (fun q _ h => hFc q h) hFc (fun ra18 u t H1 locs ht hvm hw hB hz1 hk1 hS => ?_)
    obtain ⟨hP1, hK1, hD1⟩ := hB
    rw [ht] at hP1
    obtain ⟨hP, hD⟩ := va_join (wr := [(h0, .inr (11, [.ref h1, .ref r0, .ref r1, .ref h2, .ref h3, .ref h4, .ref r2, .ref h6, .ref r3, .ref h7, .ref r4, .ref r5, .ref r6, .ref r7, .int 0, .int 5, .long 0])), (h1, .inr (10, [.ref r8, .int 0, .int 0, .int (-1), .int 0])), (h2, .inr (4, [.ref r9, .ref r10, .ref r11, .ref r12, .int 0, .int (-1)])), (h3, .inr (5, [.ref r13, .ref r14, .int 0, .int 0])), (h6, .inr (0, [.ref r16, .int 0, .int 0])), (h7, .inr (9, [.ref h2, .ref h3, .ref r17, .ref r18, .ref r19, .ref r20, .ref r21, .ref r22, .int 0]))]) (w1 := [(h4, .inr (7, [.ref h5, .ref r15, .int 0, .int 0])), (h5, .inl (g0, 58, .inl (fun _ => 0)))]) hP hD [4, 5] [0, 1, 2, 3, 6, 7] rfl rfl (by decide) (by decide) hk1 hFc hP1 hD1
    generalize H1 = H at hP hS ⊢
    have hP : va_P (dC, dI) vwCl [(h0, .inr (11, [.ref h1, .ref r0, .ref r1, .ref h2, .ref h3, .ref h4, .ref r2, .ref h6, .ref r3, .ref h7, .ref r4, .ref r5, .ref r6, .ref r7, .int 0, .int 5, .long 0])), (h1, .inr (10, [.ref r8, .int 0, .int 0, .int (-1), .int 0])), (h2, .inr (4, [.ref r9, .ref r10, .ref r11, .ref r12, .int 0, .int (-1)])), (h3, .inr (5, [.ref r13, .ref r14, .int 0, .int 0])), (h6, .inr (0, [.ref r16, .int 0, .int 0])), (h7, .inr (9, [.ref h2, .ref h3, .ref r17, .ref r18, .ref r19, .ref r20, .ref r21, .ref r22, .int 0])), (h4, .inr (7, [.ref h5, .ref r15, .int 0, .int 0])), (h5, .inl (g0, 58, .inl (fun _ => 0)))] H := hP
    have hD : va_D A [(h0, .inr (11, [.ref h1, .ref r0, .ref r1, .ref h2, .ref h3, .ref h4, .ref r2, .ref h6, .ref r3, .ref h7, .ref r4, .ref r5, .ref r6, .ref r7, .int 0, .int 5, .long 0])), (h1, .inr (10, [.ref r8, .int 0, .int 0, .int (-1), .int 0])), (h2, .inr (4, [.ref r9, .ref r10, .ref r11, .ref r12, .int 0, .int (-1)])), (h3, .inr (5, [.ref r13, .ref r14, .int 0, .int 0])), (h6, .inr (0, [.ref r16, .int 0, .int 0])), (h7, .inr (9, [.ref h2, .ref h3, .ref r17, .ref r18, .ref r19, .ref r20, .ref r21, .ref r22, .int 0])), (h4, .inr (7, [.ref h5, .ref r15, .int 0, .int 0])), (h5, .inl (g0, 58, .inl (fun _ => 0)))] := hD
    obtain rfl : ra18 = (0 : Int32) := hw
    have hPc := hP.sub (ws' := []) [] rfl
    have hDc := hD.sub (ws' := []) [] (by decide) rfl
    have hKc := hK.sub (tys' := []) [] rfl
    have hFc := va_free (wc := []) hD hS hA [] rfl
    refine va_calli (va_runS (As := [.int 0]) (rest := []) ⟨hx, hb, hml, hown, hts⟩ (k_X1_lengthOn l dC dI   H.size) (va_cwS 1 hts g_X11_count_9 rfl rfl rfl (by decide +kernel) ⟨Nat.le_of_ble_eq_true rfl, Nat.le_of_ble_eq_true rfl⟩) ⟨fun a U g mk q => by obtain ⟨q0, q1, qP, qK, qD⟩ := q; exact ⟨q0, q1, qP, va_K.moved (u := U) (U := U.calling g mk a) (Vm.Alike.refl U.vm) qK, qD⟩, fun U hU hW => ⟨rfl, by rw [hU], by rw [hU]; exact hPc, va_K.moved hW.alike hKc, hDc.weaken (fun _ _ _ _ => trivial)⟩⟩ rfl rfl hl.1 rfl (lv_room (Nat.le_of_ble_eq_true rfl)) dX11_count_127 ⟨Nat.le_of_ble_eq_true rfl, Nat.le_of_ble_eq_true rfl⟩) hS (fun q _ h => hFc q h) hFc (fun ra19 u t H1 locs ht hvm hw hB hz1 hk1 hS => ?_)
    obtain ⟨hP1, hK1, hD1⟩ := hB
    rw [ht] at hP1
    obtain ⟨hP, hD⟩ := va_join (wr := [(h0, .inr (11, [.ref h1, .ref r0, .ref r1, .ref h2, .ref h3, .ref h4, .ref r2, .ref h6, .ref r3, .ref h7, .ref r4, .ref r5, .ref r6, .ref r7, .int 0, .int 5, .long 0])), (h1, .inr (10, [.ref r8, .int 0, .int 0, .int (-1), .int 0])), (h2, .inr (4, [.ref r9, .ref r10, .ref r11, .ref r12, .int 0, .int (-1)])), (h3, .inr (5, [.ref r13, .ref r14, .int 0, .int 0])), (h6, .inr (0, [.ref r16, .int 0, .int 0])), (h7, .inr (9, [.ref h2, .ref h3, .ref r17, .ref r18, .ref r19, .ref r20, .ref r21, .ref r22, .int 0])), (h4, .inr (7, [.ref h5, .ref r15, .int 0, .int 0])), (h5, .inl (g0, 58, .inl (fun _ => 0)))]) (w1 := []) hP hD [] [0, 1, 2, 3, 4, 5, 6, 7] rfl rfl (by decide) (by decide) hk1 hFc hP1 hD1
    generalize H1 = H at hP hS ⊢
    have hP : va_P (dC, dI) vwCl [(h0, .inr (11, [.ref h1, .ref r0, .ref r1, .ref h2, .ref h3, .ref h4, .ref r2, .ref h6, .ref r3, .ref h7, .ref r4, .ref r5, .ref r6, .ref r7, .int 0, .int 5, .long 0])), (h1, .inr (10, [.ref r8, .int 0, .int 0, .int (-1), .int 0])), (h2, .inr (4, [.ref r9, .ref r10, .ref r11, .ref r12, .int 0, .int (-1)])), (h3, .inr (5, [.ref r13, .ref r14, .int 0, .int 0])), (h6, .inr (0, [.ref r16, .int 0, .int 0])), (h7, .inr (9, [.ref h2, .ref h3, .ref r17, .ref r18, .ref r19, .ref r20, .ref r21, .ref r22, .int 0])), (h4, .inr (7, [.ref h5, .ref r15, .int 0, .int 0])), (h5, .inl (g0, 58, .inl (fun _ => 0)))] H := hP
    have hD : va_D A [(h0, .inr (11, [.ref h1, .ref r0, .ref r1, .ref h2, .ref h3, .ref h4, .ref r2, .ref h6, .ref r3, .ref h7, .ref r4, .ref r5, .ref r6, .ref r7, .int 0, .int 5, .long 0])), (h1, .inr (10, [.ref r8, .int 0, .int 0, .int (-1), .int 0])), (h2, .inr (4, [.ref r9, .ref r10, .ref r11, .ref r12, .int 0, .int (-1)])), (h3, .inr (5, [.ref r13, .ref r14, .int 0, .int 0])), (h6, .inr (0, [.ref r16, .int 0, .int 0])), (h7, .inr (9, [.ref h2, .ref h3, .ref r17, .ref r18, .ref r19, .ref r20, .ref r21, .ref r22, .int 0])), (h4, .inr (7, [.ref h5, .ref r15, .int 0, .int 0])), (h5, .inl (g0, 58, .inl (fun _ => 0)))] := hD
    obtain rfl : ra19 = (0 : Int32) := hw
    have hP9 := hP.sub (ws' := [(h0, .inr (11, [.ref h1, .ref r0, .ref r1, .ref h2, .ref h3, .ref h4, .ref r2, .ref h6, .ref r3, .ref h7, .ref r4, .ref r5, .ref r6, .ref r7, .int 0, .int 5, .long 0])), (h1, .inr (10, [.ref r8, .int 0, .int 0, .int (-1), .int 0])), (h2, .inr (4, [.ref r9, .ref r10, .ref r11, .ref r12, .int 0, .int (-1)])), (h4, .inr (7, [.ref h5, .ref r15, .int 0, .int 0])), (h5, .inl (g0, 58, .inl (fun _ => 0))), (h6, .inr (0, [.ref r16, .int 0, .int 0])), (h7, .inr (9, [.ref h2, .ref h3, .ref r17, .ref r18, .ref r19, .ref r20, .ref r21, .ref r22, .int 0])), (h3, .inr (5, [.ref r13, .ref r14, .int 0, .int 0]))]) [0, 1, 2, 6, 7, 4, 5, 3] rfl
    have hD9 := hD.sub (ws' := [(h0, .inr (11, [.ref h1, .ref r0, .ref r1, .ref h2, .ref h3, .ref h4, .ref r2, .ref h6, .ref r3, .ref h7, .ref r4, .ref r5, .ref r6, .ref r7, .int 0, .int 5, .long 0])), (h1, .inr (10, [.ref r8, .int 0, .int 0, .int (-1), .int 0])), (h2, .inr (4, [.ref r9, .ref r10, .ref r11, .ref r12, .int 0, .int (-1)])), (h4, .inr (7, [.ref h5, .ref r15, .int 0, .int 0])), (h5, .inl (g0, 58, .inl (fun _ => 0))), (h6, .inr (0, [.ref r16, .int 0, .int 0])), (h7, .inr (9, [.ref h2, .ref h3, .ref r17, .ref r18, .ref r19, .ref r20, .ref r21, .ref r22, .int 0])), (h3, .inr (5, [.ref r13, .ref r14, .int 0, .int 0]))]) [0, 1, 2, 6, 7, 4, 5, 3] (by decide) rfl
    have hK9 := hK.sub (tys' := [(g0, .int)]) [0] rfl
    exact W.iret (v := 0) hx hb hr (fun t ht hW => ⟨⟨0, (), rfl, by rw [if_neg c1, if_neg c3, if_neg c6, if_neg c8, if_neg c10, if_neg c12, if_neg c14, if_neg c15, if_pos c17], by rw [ht]; exact hP9, va_K.moved hW.alike hK9, hD9⟩, hS.F ht⟩) hS.2.2 dX11_count_130
  by_cases c20 : v0 = 9
  · skip
    refine lv_tableIn (off := 130) (tgt := 131) hx hb dX11_count_1 (by rw [c20]; decide) (by rw [c20]; decide) (by rw [c20]; rfl) (by decide) ?_
    refine lv_aload_n hx hb dX11_count_131 rfl (lv_at hl 0 rfl) ?_
    refine va_get (D := (dC, dI)) (ci := 11) (v := .ref h6) (C := RX11) (T := TX11) (N := 17) hx hb hts (fun _ h => List.mem_cons_of_mem _ (List.mem_append_left _ (List.mem_append_left _ (List.mem_append_left _ (List.mem_append_left _ (List.mem_append_left _ (List.mem_append_left _ (List.mem_append_right _ h)))))))) hown hK hP 0 rfl rfl 7 (by decide) (hts (.fieldLink RX11 63 "LeftArguments" "acts" "LLeftArguments$Acts;") (List.mem_cons_of_mem _ (List.mem_append_left _ (List.mem_append_left _ (List.mem_append_left _ (List.mem_append_left _ (List.mem_append_left _ (List.mem_append_left _ (List.mem_append_left _ (List.mem_of_getElem? (i := 68) rfl)))))))))) (fun _ h9 => h9) rfl dX11_count_132 ?_
    have hPc := hP.sub (ws' := [(h6, .inr (0, [.ref r16, .int 0, .int 0]))]) [6] rfl
    have hDc := hD.sub (ws' := [(h6, .inr (0, [.ref r16, .int 0, .int 0]))]) [6] (by decide) rfl
    have hKc := hK.sub (tys' := []) [] rfl
    have hFc := va_free (wc := [(h6, .inr (0, [.ref r16, .int 0, .int 0]))]) hD hS hA [6] rfl
    refine va_calli (va_runV (As := []) (rest := []) ⟨hx, hb, hml, hown, hts⟩ (k_X0_number l dC dI h6 r16  s.heap.size) (cwV 0 hts g_X11_count_10 rfl rfl rfl (by decide +kernel) ⟨Nat.le_of_ble_eq_true rfl, Nat.le_of_ble_eq_true rfl⟩) ⟨fun a U g mk q => by obtain ⟨q0, q1, qP, qK, qD⟩ := q; exact ⟨q0, q1, qP, va_K.moved (u := U) (U := U.calling g mk a) (Vm.Alike.refl U.vm) qK, qD⟩, va_recv hKc hPc (ci := 0) (q0 := 0) rfl rfl, fun U hU hW => ⟨rfl, by rw [hU], by rw [hU]; exact hPc, va_K.moved hW.alike hKc, hDc.weaken (fun _ _ _ _ => trivial)⟩⟩ rfl rfl hl.1 rfl (lv_room (Nat.le_of_ble_eq_true rfl)) dX11_count_135 ⟨Nat.le_of_ble_eq_true rfl, Nat.le_of_ble_eq_true rfl⟩) hS (fun q _ h => hFc q h) hFc (fun ra21 u t H1 locs ht hvm hw hB hz1 hk1 hS => ?_)
    obtain ⟨hP1, hK1, hD1⟩ := hB
    rw [ht] at hP1
    obtain ⟨hP, hD⟩ := va_join (wr := [(h0, .inr (11, [.ref h1, .ref r0, .ref r1, .ref h2, .ref h3, .ref h4, .ref r2, .ref h6, .ref r3, .ref h7, .ref r4, .ref r5, .ref r6, .ref r7, .int 0, .int 5, .long 0])), (h1, .inr (10, [.ref r8, .int 0, .int 0, .int (-1), .int 0])), (h2, .inr (4, [.ref r9, .ref r10, .ref r11, .ref r12, .int 0, .int (-1)])), (h3, .inr (5, [.ref r13, .ref r14, .int 0, .int 0])), (h4, .inr (7, [.ref h5, .ref r15, .int 0, .int 0])), (h5, .inl (g0, 58, .inl (fun _ => 0))), (h7, .inr (9, [.ref h2, .ref h3, .ref r17, .ref r18, .ref r19, .ref r20, .ref r21, .ref r22, .int 0]))]) (w1 := [(h6, .inr (0, [.ref r16, .int 0, .int 0]))]) hP hD [6] [0, 1, 2, 3, 4, 5, 7] rfl rfl (by decide) (by decide) hk1 hFc hP1 hD1
    generalize H1 = H at hP hS ⊢
    have hP : va_P (dC, dI) vwCl [(h0, .inr (11, [.ref h1, .ref r0, .ref r1, .ref h2, .ref h3, .ref h4, .ref r2, .ref h6, .ref r3, .ref h7, .ref r4, .ref r5, .ref r6, .ref r7, .int 0, .int 5, .long 0])), (h1, .inr (10, [.ref r8, .int 0, .int 0, .int (-1), .int 0])), (h2, .inr (4, [.ref r9, .ref r10, .ref r11, .ref r12, .int 0, .int (-1)])), (h3, .inr (5, [.ref r13, .ref r14, .int 0, .int 0])), (h4, .inr (7, [.ref h5, .ref r15, .int 0, .int 0])), (h5, .inl (g0, 58, .inl (fun _ => 0))), (h7, .inr (9, [.ref h2, .ref h3, .ref r17, .ref r18, .ref r19, .ref r20, .ref r21, .ref r22, .int 0])), (h6, .inr (0, [.ref r16, .int 0, .int 0]))] H := hP
    have hD : va_D A [(h0, .inr (11, [.ref h1, .ref r0, .ref r1, .ref h2, .ref h3, .ref h4, .ref r2, .ref h6, .ref r3, .ref h7, .ref r4, .ref r5, .ref r6, .ref r7, .int 0, .int 5, .long 0])), (h1, .inr (10, [.ref r8, .int 0, .int 0, .int (-1), .int 0])), (h2, .inr (4, [.ref r9, .ref r10, .ref r11, .ref r12, .int 0, .int (-1)])), (h3, .inr (5, [.ref r13, .ref r14, .int 0, .int 0])), (h4, .inr (7, [.ref h5, .ref r15, .int 0, .int 0])), (h5, .inl (g0, 58, .inl (fun _ => 0))), (h7, .inr (9, [.ref h2, .ref h3, .ref r17, .ref r18, .ref r19, .ref r20, .ref r21, .ref r22, .int 0])), (h6, .inr (0, [.ref r16, .int 0, .int 0]))] := hD
    obtain rfl : ra21 = (0 : Int32) := hw
    have hP9 := hP.sub (ws' := [(h0, .inr (11, [.ref h1, .ref r0, .ref r1, .ref h2, .ref h3, .ref h4, .ref r2, .ref h6, .ref r3, .ref h7, .ref r4, .ref r5, .ref r6, .ref r7, .int 0, .int 5, .long 0])), (h1, .inr (10, [.ref r8, .int 0, .int 0, .int (-1), .int 0])), (h2, .inr (4, [.ref r9, .ref r10, .ref r11, .ref r12, .int 0, .int (-1)])), (h4, .inr (7, [.ref h5, .ref r15, .int 0, .int 0])), (h5, .inl (g0, 58, .inl (fun _ => 0))), (h6, .inr (0, [.ref r16, .int 0, .int 0])), (h7, .inr (9, [.ref h2, .ref h3, .ref r17, .ref r18, .ref r19, .ref r20, .ref r21, .ref r22, .int 0])), (h3, .inr (5, [.ref r13, .ref r14, .int 0, .int 0]))]) [0, 1, 2, 4, 5, 7, 6, 3] rfl
    have hD9 := hD.sub (ws' := [(h0, .inr (11, [.ref h1, .ref r0, .ref r1, .ref h2, .ref h3, .ref h4, .ref r2, .ref h6, .ref r3, .ref h7, .ref r4, .ref r5, .ref r6, .ref r7, .int 0, .int 5, .long 0])), (h1, .inr (10, [.ref r8, .int 0, .int 0, .int (-1), .int 0])), (h2, .inr (4, [.ref r9, .ref r10, .ref r11, .ref r12, .int 0, .int (-1)])), (h4, .inr (7, [.ref h5, .ref r15, .int 0, .int 0])), (h5, .inl (g0, 58, .inl (fun _ => 0))), (h6, .inr (0, [.ref r16, .int 0, .int 0])), (h7, .inr (9, [.ref h2, .ref h3, .ref r17, .ref r18, .ref r19, .ref r20, .ref r21, .ref r22, .int 0])), (h3, .inr (5, [.ref r13, .ref r14, .int 0, .int 0]))]) [0, 1, 2, 4, 5, 7, 6, 3] (by decide) rfl
    have hK9 := hK.sub (tys' := [(g0, .int)]) [0] rfl
    exact W.iret (v := 0) hx hb hr (fun t ht hW => ⟨⟨0, (), rfl, by rw [if_neg c1, if_neg c3, if_neg c6, if_neg c8, if_neg c10, if_neg c12, if_neg c14, if_neg c15, if_neg c17, if_pos c20], by rw [ht]; exact hP9, va_K.moved hW.alike hK9, hD9⟩, hS.F ht⟩) hS.2.2 dX11_count_138
  refine lv_tableOut (tgt := 139) hx hb dX11_count_1 (pv_tab 9 rfl (fun j hj => by rcases (show j = 0 ∨ j = 1 ∨ j = 2 ∨ j = 3 ∨ j = 4 ∨ j = 5 ∨ j = 6 ∨ j = 7 ∨ j = 8 ∨ j = 9 by omega) with rfl | rfl | rfl | rfl | rfl | rfl | rfl | rfl | rfl | rfl <;> assumption)) (by decide) ?_
  refine lv_ldc (v := (-1000000)) hx hb hown (hts (.constant RX11 208 (-1000000)) (List.mem_cons_of_mem _ (List.mem_append_left _ (List.mem_append_left _ (List.mem_append_left _ (List.mem_append_left _ (List.mem_append_left _ (List.mem_append_left _ (List.mem_append_left _ (List.mem_of_getElem? (i := 75) rfl)))))))))) dX11_count_139 ?_
  have hP9 := hP.sub (ws' := [(h0, .inr (11, [.ref h1, .ref r0, .ref r1, .ref h2, .ref h3, .ref h4, .ref r2, .ref h6, .ref r3, .ref h7, .ref r4, .ref r5, .ref r6, .ref r7, .int 0, .int 5, .long 0])), (h1, .inr (10, [.ref r8, .int 0, .int 0, .int (-1), .int 0])), (h2, .inr (4, [.ref r9, .ref r10, .ref r11, .ref r12, .int 0, .int (-1)])), (h4, .inr (7, [.ref h5, .ref r15, .int 0, .int 0])), (h5, .inl (g0, 58, .inl (fun _ => 0))), (h6, .inr (0, [.ref r16, .int 0, .int 0])), (h7, .inr (9, [.ref h2, .ref h3, .ref r17, .ref r18, .ref r19, .ref r20, .ref r21, .ref r22, .int 0])), (h3, .inr (5, [.ref r13, .ref r14, .int 0, .int 0]))]) [0, 1, 2, 4, 5, 6, 7, 3] rfl
  have hD9 := hD.sub (ws' := [(h0, .inr (11, [.ref h1, .ref r0, .ref r1, .ref h2, .ref h3, .ref h4, .ref r2, .ref h6, .ref r3, .ref h7, .ref r4, .ref r5, .ref r6, .ref r7, .int 0, .int 5, .long 0])), (h1, .inr (10, [.ref r8, .int 0, .int 0, .int (-1), .int 0])), (h2, .inr (4, [.ref r9, .ref r10, .ref r11, .ref r12, .int 0, .int (-1)])), (h4, .inr (7, [.ref h5, .ref r15, .int 0, .int 0])), (h5, .inl (g0, 58, .inl (fun _ => 0))), (h6, .inr (0, [.ref r16, .int 0, .int 0])), (h7, .inr (9, [.ref h2, .ref h3, .ref r17, .ref r18, .ref r19, .ref r20, .ref r21, .ref r22, .int 0])), (h3, .inr (5, [.ref r13, .ref r14, .int 0, .int 0]))]) [0, 1, 2, 4, 5, 6, 7, 3] (by decide) rfl
  have hK9 := hK.sub (tys' := [(g0, .int)]) [0] rfl
  exact W.iret (v := (-1000000)) hx hb hr (fun t ht hW => ⟨⟨(-1000000), (), rfl, by rw [if_neg c1, if_neg c3, if_neg c6, if_neg c8, if_neg c10, if_neg c12, if_neg c14, if_neg c15, if_neg c17, if_neg c20], by rw [ht]; exact hP9, va_K.moved hW.alike hK9, hD9⟩, hS.F ht⟩) hS.2.2 dX11_count_141
