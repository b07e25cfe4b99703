def q_X7_has : List Cond := .code yX7_has cX7_has 2 (some .boolean) :: (([.fieldLink RX7 11 "LeftArguments$Room" "cells" "[I"] : List Cond) ++ wsX70)
set_option maxHeartbeats 4000000 in
set_option maxRecDepth 100000 in
theorem k_X7_has (l : Launch) (dC : Nat → ClassId) (dI : Nat → Nat → Nat) (h0 : Nat) (h1 : Nat) (r0 : Nat) (v0 : Int32) (v1 : Int32) (g0 : ClassId) (f2 : Nat → Int32) (v3 : Int32) (sz : Nat) : Met l yX7_has q_X7_has ({ frames := 0, cells := 0, slots := 0, locals := 0 }) (va_Pc [.ref h0, .int v3] (fun U => U.heap.size = sz ∧ va_P (dC, dI) vwCl [(h0, .inr (7, [.ref h1, .ref r0, .int v0, .int v1])), (h1, .inl (g0, 58, .inl f2))] U.heap ∧ va_K (dC, dI) vwCl [(g0, .int)] U ∧ va_D (fun _ => True) [(h0, .inr (7, [.ref h1, .ref r0, .int v0, .int v1])), (h1, .inl (g0, 58, .inl f2))])) (va_Qi (fun (r : Int32) (_ : Unit) => 0 ≤ r.toInt ∧ r.toInt ≤ 1) (fun (_ : Unit) (t : State) => va_P (dC, dI) vwCl [(h0, .inr (7, [.ref h1, .ref r0, .int v0, .int v1])), (h1, .inl (g0, 58, .inl f2))] t.heap ∧ va_K (dC, dI) vwCl [] t ∧ va_D (va_A [(h0, .inr (7, [.ref h1, .ref r0, .int v0, .int v1])), (h1, .inl (g0, 58, .inl f2))] sz) [(h0, .inr (7, [.ref h1, .ref r0, .int v0, .int v1])), (h1, .inl (g0, 58, .inl f2))]) (va_A [(h0, .inr (7, [.ref h1, .ref r0, .int v0, .int v1])), (h1, .inl (g0, 58, .inl f2))] sz)) 0 0 (va_A [(h0, .inr (7, [.ref h1, .ref r0, .int v0, .int v1])), (h1, .inl (g0, 58, .inl f2))] sz) := by
  refine Met.ofW (cc := cX7_has) (maxL := 2) (ret := (some .boolean)) (by decide) rfl ?_
  intro p e s m args below meth c s₁ B hml hv
  obtain ⟨rfl, hsz, hP, hK, hD0⟩ := hv
  have hx := B.exec
  have hb := B.bytes
  have hr := B.returns
  have hts := atoms_spec (ws := q_X7_has) B.pre
  have hown : s.vm.findClass RX7 = some m.cls := findClass_of_methodNamed B.named
  have hlocks := B.notSynchronized
  subst hsz
  have hD := hD0.self (sz := s.heap.size)
  generalize hAe : va_A [(h0, .inr (7, [.ref h1, .ref r0, .int v0, .int v1])), (h1, .inl (g0, 58, .inl f2))] s.heap.size = A at hD ⊢
  have hA : ∀ q : Nat, s.heap.size ≤ q → A q := fun q h => by rw [← hAe]; exact Or.inr h
  have hS : va_S A s.heap s.heap [] := va_S.rf
  generalize hQ : (MQ below _ _ s 0 0 A) = Q
  have hl := lv_entry ([.ref h0, .int v3]) (n := 2) (Nat.le_of_ble_eq_true rfl)
  rw [lg_entry_eq]
  generalize (lg_sl ([.ref h0, .int v3]) ++ List.replicate (2 - (lg_sl ([.ref h0, .int v3])).length) Slot.unset).toArray = ls at hl ⊢
  have hl : lv_has ls 2 [(0, .ref h0), (1, .int v3)] := hl
  obtain ⟨H, hH⟩ : ∃ H : Heap, H = s.heap := ⟨_, rfl⟩
  obtain ⟨locs, hlocs⟩ : ∃ y : List Loc, y = [] := ⟨_, rfl⟩
  have hS : va_S A s.heap H locs := by rw [hH, hlocs]; exact va_S.rf
  have hP : va_P (dC, dI) vwCl [(h0, .inr (7, [.ref h1, .ref r0, .int v0, .int v1])), (h1, .inl (g0, 58, .inl f2))] H := by rw [hH]; exact hP
  rw [← hH, ← hlocs]
  refine lv_iload_n hx hb dX7_has_0 rfl (lv_at hl 1 rfl) ?_
  have hJ2 : ∀ (x1 : Int32) (H : Heap) (locs : List Loc) (ls : Array Slot), 0 ≤ x1.toInt → x1.toInt ≤ 1 → va_P (dC, dI) vwCl [(h0, .inr (7, [.ref h1, .ref r0, .int v0, .int v1])), (h1, .inl (g0, 58, .inl f2))] H → va_D A [(h0, .inr (7, [.ref h1, .ref r0, .int v0, .int v1])), (h1, .inl (g0, 58, .inl f2))] → va_S A s.heap H locs → lv_has ls 2 [(0, .ref h0), (1, .int v3)] → W p l e ({ frames := 0, cells := 0, slots := 0, locals := 0 }) s m ([.ref h0, .int v3] : List Value).toArray below meth c H locs 0 0 Q (F0 m 24 ls [.int x1]) := by
    intro x1 H locs ls q0_x1 q1_x1 hP hD hS hl
    subst hQ
    have hP9 := hP.sub (ws' := [(h0, .inr (7, [.ref h1, .ref r0, .int v0, .int v1])), (h1, .inl (g0, 58, .inl f2))]) [0, 1] rfl
    have hD9 := hD.sub (ws' := [(h0, .inr (7, [.ref h1, .ref r0, .int v0, .int v1])), (h1, .inl (g0, 58, .inl f2))]) [0, 1] (by decide) rfl
    have hK9 := hK.sub (tys' := []) [] rfl
    exact W.zret (v := x1) hx hb hr (pv_nz (by omega) (by omega)) (fun t ht hW => ⟨⟨x1, (), rfl, ⟨by first | omega | decide, by first | omega | decide⟩, by rw [ht]; exact hP9, va_K.moved hW.alike hK9, hD9⟩, hS.F ht⟩) hS.2.2 dX7_has_24
  refine lv_if_lt (tgt := 23) hx hb dX7_has_1 (by decide) (fun c3 => ?_) (fun c3 => ?_)
  · skip
    have fc3 : v3.toInt < 0 := Int32.lt_iff_toInt_lt.mp c3
    refine lv_iconst (v := 0) hx hb dX7_has_23 (by decide) ?_
    exact hJ2 0 H locs ls (by first | omega | decide) (by first | omega | decide) hP hD hS (lv_sub hl [0, 1] rfl)
  · skip
    have fc3 : ¬ (v3.toInt < 0) := fun h9 => c3 (Int32.lt_iff_toInt_lt.mpr h9)
    refine lv_iload_n hx hb dX7_has_4 rfl (lv_at hl 1 rfl) ?_
    refine lv_bipush (v := 8) hx hb dX7_has_5 (by decide) ?_
    refine lv_icmp_ge (tgt := 23) hx hb dX7_has_7 (by decide) (fun c4 => ?_) (fun c4 => ?_)
    · skip
      have fc4 : 8 ≤ v3.toInt := Int32.le_iff_toInt_le.mp c4
      refine lv_iconst (v := 0) hx hb dX7_has_23 (by decide) ?_
      exact hJ2 0 H locs ls (by first | omega | decide) (by first | omega | decide) hP hD hS (lv_sub hl [0, 1] rfl)
    · skip
      have fc4 : ¬ (8 ≤ v3.toInt) := fun h9 => c4 (Int32.le_iff_toInt_le.mpr h9)
      refine lv_aload_n hx hb dX7_has_10 rfl (lv_at hl 0 rfl) ?_
      refine va_get (D := (dC, dI)) (ci := 7) (v := .ref h1) (C := RX7) (T := TX7) (N := 4) hx hb hts (fun _ h => List.mem_cons_of_mem _ (List.mem_append_right _ h)) hown hK hP 0 rfl rfl 0 (by decide) (hts (.fieldLink RX7 11 "LeftArguments$Room" "cells" "[I") (List.mem_cons_of_mem _ (List.mem_append_left _ (List.mem_of_getElem? (i := 0) rfl)))) (fun _ h9 => h9) rfl dX7_has_11 ?_
      refine lv_iload_n hx hb dX7_has_14 rfl (lv_at hl 1 rfl) ?_
      refine va_iald hx hb hK hP 1 0 rfl rfl (vp_in_iff.mpr ⟨by omega, by omega⟩) dX7_has_15 ?_
      refine lv_topi (fun t5 et5 => ?_)
      refine lv_if_le (tgt := 23) hx hb dX7_has_16 (by decide) (fun c6 => ?_) (fun c6 => ?_)
      · skip
        have fc6 : t5.toInt ≤ 0 := Int32.le_iff_toInt_le.mp c6
        refine lv_iconst (v := 0) hx hb dX7_has_23 (by decide) ?_
        exact hJ2 0 H locs ls (by first | omega | decide) (by first | omega | decide) hP hD hS (lv_sub hl [0, 1] rfl)
      · skip
        have fc6 : ¬ (t5.toInt ≤ 0) := fun h9 => c6 (Int32.le_iff_toInt_le.mpr h9)
        refine lv_iconst (v := 1) hx hb dX7_has_19 (by decide) ?_
        refine lv_goto (tgt := 24) hx hb dX7_has_20 (by decide) ?_
        exact hJ2 1 H locs ls (by first | omega | decide) (by first | omega | decide) hP hD hS (lv_sub hl [0, 1] rfl)
def q_X7_of : List Cond := .code yX7_of cX7_of 3 (some .int) :: (([.fieldLink RX7 11 "LeftArguments$Room" "cells" "[I"] : List Cond) ++ wsX70)
set_option maxHeartbeats 4000000 in
set_option maxRecDepth 100000 in
theorem k_X7_of (l : Launch) (dC : Nat → ClassId) (dI : Nat → Nat → Nat) (h0 : Nat) (h1 : Nat) (r0 : Nat) (v0 : Int32) (v1 : Int32) (g0 : ClassId) (f2 : Nat → Int32) (v3 : Int32) (v4 : Int32) (sz : Nat) : Met l yX7_of q_X7_of ({ frames := 0, cells := 0, slots := 0, locals := 0 }) (va_Pc [.ref h0, .int v3, .int v4] (fun U => U.heap.size = sz ∧ va_P (dC, dI) vwCl [(h0, .inr (7, [.ref h1, .ref r0, .int v0, .int v1])), (h1, .inl (g0, 58, .inl f2))] U.heap ∧ va_K (dC, dI) vwCl [(g0, .int)] U ∧ va_D (fun _ => True) [(h0, .inr (7, [.ref h1, .ref r0, .int v0, .int v1])), (h1, .inl (g0, 58, .inl f2))])) (va_Qi (fun (r : Int32) (_ : Unit) => True) (fun (_ : Unit) (t : State) => va_P (dC, dI) vwCl [(h0, .inr (7, [.ref h1, .ref r0, .int v0, .int v1])), (h1, .inl (g0, 58, .inl f2))] t.heap ∧ va_K (dC, dI) vwCl [] t ∧ va_D (va_A [(h0, .inr (7, [.ref h1, .ref r0, .int v0, .int v1])), (h1, .inl (g0, 58, .inl f2))] sz) [(h0, .inr (7, [.ref h1, .ref r0, .int v0, .int v1])), (h1, .inl (g0, 58, .inl f2))]) (va_A [(h0, .inr (7, [.ref h1, .ref r0, .int v0, .int v1])), (h1, .inl (g0, 58, .inl f2))] sz)) 0 0 (va_A [(h0, .inr (7, [.ref h1, .ref r0, .int v0, .int v1])), (h1, .inl (g0, 58, .inl f2))] sz) := by
  refine Met.ofW (cc := cX7_of) (maxL := 3) (ret := (some .int)) (by decide) rfl ?_
  intro p e s m args below meth c s₁ B hml hv
  obtain ⟨rfl, hsz, hP, hK, hD0⟩ := hv
  have hx := B.exec
  have hb := B.bytes
  have hr := B.returns
  have hts := atoms_spec (ws := q_X7_of) B.pre
  have hown : s.vm.findClass RX7 = some m.cls := findClass_of_methodNamed B.named
  have hlocks := B.notSynchronized
  subst hsz
  have hD := hD0.self (sz := s.heap.size)
  generalize hAe : va_A [(h0, .inr (7, [.ref h1, .ref r0, .int v0, .int v1])), (h1, .inl (g0, 58, .inl f2))] s.heap.size = A at hD ⊢
  have hA : ∀ q : Nat, s.heap.size ≤ q → A q := fun q h => by rw [← hAe]; exact Or.inr h
  have hS : va_S A s.heap s.heap [] := va_S.rf
  generalize hQ : (MQ below _ _ s 0 0 A) = Q
  have hl := lv_entry ([.ref h0, .int v3, .int v4]) (n := 3) (Nat.le_of_ble_eq_true rfl)
  rw [lg_entry_eq]
  generalize (lg_sl ([.ref h0, .int v3, .int v4]) ++ List.replicate (3 - (lg_sl ([.ref h0, .int v3, .int v4])).length) Slot.unset).toArray = ls at hl ⊢
  have hl : lv_has ls 3 [(0, .ref h0), (1, .int v3), (2, .int v4)] := hl
  obtain ⟨H, hH⟩ : ∃ H : Heap, H = s.heap := ⟨_, rfl⟩
  obtain ⟨locs, hlocs⟩ : ∃ y : List Loc, y = [] := ⟨_, rfl⟩
  have hS : va_S A s.heap H locs := by rw [hH, hlocs]; exact va_S.rf
  have hP : va_P (dC, dI) vwCl [(h0, .inr (7, [.ref h1, .ref r0, .int v0, .int v1])), (h1, .inl (g0, 58, .inl f2))] H := by rw [hH]; exact hP
  rw [← hH, ← hlocs]
  refine lv_iload_n hx hb dX7_of_0 rfl (lv_at hl 1 rfl) ?_
  have hJ2 : ∀ (x1 : Int32) (H : Heap) (locs : List Loc) (ls : Array Slot), va_P (dC, dI) vwCl [(h0, .inr (7, [.ref h1, .ref r0, .int v0, .int v1])), (h1, .inl (g0, 58, .inl f2))] H → va_D A [(h0, .inr (7, [.ref h1, .ref r0, .int v0, .int v1])), (h1, .inl (g0, 58, .inl f2))] → va_S A s.heap H locs → lv_has ls 3 [(0, .ref h0), (1, .int v3), (2, .int v4)] → W p l e ({ frames := 0, cells := 0, slots := 0, locals := 0 }) s m ([.ref h0, .int v3, .int v4] : List Value).toArray below meth c H locs 0 0 Q (F0 m 35 ls [.int x1]) := by
    intro x1 H locs ls hP hD hS hl
    subst hQ
    have hP9 := hP.sub (ws' := [(h0, .inr (7, [.ref h1, .ref r0, .int v0, .int v1])), (h1, .inl (g0, 58, .inl f2))]) [0, 1] rfl
    have hD9 := hD.sub (ws' := [(h0, .inr (7, [.ref h1, .ref r0, .int v0, .int v1])), (h1, .inl (g0, 58, .inl f2))]) [0, 1] (by decide) rfl
    have hK9 := hK.sub (tys' := []) [] rfl
    exact W.iret (v := x1) hx hb hr (fun t ht hW => ⟨⟨x1, (), rfl, trivial, by rw [ht]; exact hP9, va_K.moved hW.alike hK9, hD9⟩, hS.F ht⟩) hS.2.2 dX7_of_35
  refine lv_if_lt (tgt := 34) hx hb dX7_of_1 (by decide) (fun c3 => ?_) (fun c3 => ?_)
  · skip
    have fc3 : v3.toInt < 0 := Int32.lt_iff_toInt_lt.mp c3
    refine lv_iconst (v := 0) hx hb dX7_of_34 (by decide) ?_
    exact hJ2 0 H locs ls hP hD hS (lv_sub hl [0, 1, 2] rfl)
  · skip
    have fc3 : ¬ (v3.toInt < 0) := fun h9 => c3 (Int32.lt_iff_toInt_lt.mpr h9)
    refine lv_iload_n hx hb dX7_of_4 rfl (lv_at hl 1 rfl) ?_
    refine lv_bipush (v := 8) hx hb dX7_of_5 (by decide) ?_
    refine lv_icmp_ge (tgt := 34) hx hb dX7_of_7 (by decide) (fun c4 => ?_) (fun c4 => ?_)
    · skip
      have fc4 : 8 ≤ v3.toInt := Int32.le_iff_toInt_le.mp c4
      refine lv_iconst (v := 0) hx hb dX7_of_34 (by decide) ?_
      exact hJ2 0 H locs ls hP hD hS (lv_sub hl [0, 1, 2] rfl)
    · skip
      have fc4 : ¬ (8 ≤ v3.toInt) := fun h9 => c4 (Int32.le_iff_toInt_le.mpr h9)
      refine lv_iload_n hx hb dX7_of_10 rfl (lv_at hl 2 rfl) ?_
      refine lv_if_lt (tgt := 34) hx hb dX7_of_11 (by decide) (fun c5 => ?_) (fun c5 => ?_)
      · skip
        have fc5 : v4.toInt < 0 := Int32.lt_iff_toInt_lt.mp c5
        refine lv_iconst (v := 0) hx hb dX7_of_34 (by decide) ?_
        exact hJ2 0 H locs ls hP hD hS (lv_sub hl [0, 1, 2] rfl)
      · skip
        have fc5 : ¬ (v4.toInt < 0) := fun h9 => c5 (Int32.lt_iff_toInt_lt.mpr h9)
        refine lv_iload_n hx hb dX7_of_14 rfl (lv_at hl 2 rfl) ?_
        refine lv_bipush (v := 7) hx hb dX7_of_15 (by decide) ?_
        refine lv_icmp_ge (tgt := 34) hx hb dX7_of_17 (by decide) (fun c6 => ?_) (fun c6 => ?_)
        · skip
          have fc6 : 7 ≤ v4.toInt := Int32.le_iff_toInt_le.mp c6
          refine lv_iconst (v := 0) hx hb dX7_of_34 (by decide) ?_
          exact hJ2 0 H locs ls hP hD hS (lv_sub hl [0, 1, 2] rfl)
        · skip
          have fc6 : ¬ (7 ≤ v4.toInt) := fun h9 => c6 (Int32.le_iff_toInt_le.mpr h9)
          refine lv_aload_n hx hb dX7_of_20 rfl (lv_at hl 0 rfl) ?_
          refine va_get (D := (dC, dI)) (ci := 7) (v := .ref h1) (C := RX7) (T := TX7) (N := 4) hx hb hts (fun _ h => List.mem_cons_of_mem _ (List.mem_append_right _ h)) hown hK hP 0 rfl rfl 0 (by decide) (hts (.fieldLink RX7 11 "LeftArguments$Room" "cells" "[I") (List.mem_cons_of_mem _ (List.mem_append_left _ (List.mem_of_getElem? (i := 0) rfl)))) (fun _ h9 => h9) rfl dX7_of_21 ?_
          refine lv_iload_n hx hb dX7_of_24 rfl (lv_at hl 2 rfl) ?_
          refine lv_bipush (v := 8) hx hb dX7_of_25 (by decide) ?_
          refine lv_imul hx hb dX7_of_27 ?_
          refine lv_topi (fun t7 et7 => ?_)
          have gt7 : t7.toInt = v4.toInt * 8 := pv_mul (a := v4.toInt) (b := 8) et7 rfl (by decide) (by omega) (by omega)
          refine lv_iload_n hx hb dX7_of_28 rfl (lv_at hl 1 rfl) ?_
          refine lv_iadd hx hb dX7_of_29 ?_
          refine lv_topi (fun t8 et8 => ?_)
          have gt8 : t8.toInt = t7.toInt + v3.toInt := pv_add (a := t7.toInt) (b := v3.toInt) et8 rfl rfl (by omega) (by omega)
          refine va_iald hx hb hK hP 1 0 rfl rfl (vp_in_iff.mpr ⟨by omega, by omega⟩) dX7_of_30 ?_
          refine lv_topi (fun t9 et9 => ?_)
          refine lv_goto (tgt := 35) hx hb dX7_of_31 (by decide) ?_
          exact hJ2 t9 H locs ls hP hD hS (lv_sub hl [0, 1, 2] rfl)
def q_X7_day : List Cond := .code yX7_day cX7_day 1 (some .int) :: (([.fieldLink RX7 11 "LeftArguments$Room" "cells" "[I"] : List Cond) ++ wsX70)
set_option maxHeartbeats 4000000 in
set_option maxRecDepth 100000 in
theorem k_X7_day (l : Launch) (dC : Nat → ClassId) (dI : Nat → Nat → Nat) (h0 : Nat) (h1 : Nat) (r0 : Nat) (v0 : Int32) (v1 : Int32) (g0 : ClassId) (f2 : Nat → Int32) (sz : Nat) : Met l yX7_day q_X7_day ({ frames := 0, cells := 0, slots := 0, locals := 0 }) (va_Pc [.ref h0] (fun U => U.heap.size = sz ∧ va_P (dC, dI) vwCl [(h0, .inr (7, [.ref h1, .ref r0, .int v0, .int v1])), (h1, .inl (g0, 58, .inl f2))] U.heap ∧ va_K (dC, dI) vwCl [(g0, .int)] U ∧ va_D (fun _ => True) [(h0, .inr (7, [.ref h1, .ref r0, .int v0, .int v1])), (h1, .inl (g0, 58, .inl f2))])) (va_Qi (fun (r : Int32) (_ : Unit) => True) (fun (_ : Unit) (t : State) => va_P (dC, dI) vwCl [(h0, .inr (7, [.ref h1, .ref r0, .int v0, .int v1])), (h1, .inl (g0, 58, .inl f2))] t.heap ∧ va_K (dC, dI) vwCl [] t ∧ va_D (va_A [(h0, .inr (7, [.ref h1, .ref r0, .int v0, .int v1])), (h1, .inl (g0, 58, .inl f2))] sz) [(h0, .inr (7, [.ref h1, .ref r0, .int v0, .int v1])), (h1, .inl (g0, 58, .inl f2))]) (va_A [(h0, .inr (7, [.ref h1, .ref r0, .int v0, .int v1])), (h1, .inl (g0, 58, .inl f2))] sz)) 0 0 (va_A [(h0, .inr (7, [.ref h1, .ref r0, .int v0, .int v1])), (h1, .inl (g0, 58, .inl f2))] sz) := by
  refine Met.ofW (cc := cX7_day) (maxL := 1) (ret := (some .int)) (by decide) rfl ?_
  intro p e s m args below meth c s₁ B hml hv
  obtain ⟨rfl, hsz, hP, hK, hD0⟩ := hv
  have hx := B.exec
  have hb := B.bytes
  have hr := B.returns
  have hts := atoms_spec (ws := q_X7_day) B.pre
  have hown : s.vm.findClass RX7 = some m.cls := findClass_of_methodNamed B.named
  have hlocks := B.notSynchronized
  subst hsz
  have hD := hD0.self (sz := s.heap.size)
  generalize hAe : va_A [(h0, .inr (7, [.ref h1, .ref r0, .int v0, .int v1])), (h1, .inl (g0, 58, .inl f2))] s.heap.size = A at hD ⊢
  have hA : ∀ q : Nat, s.heap.size ≤ q → A q := fun q h => by rw [← hAe]; exact Or.inr h
  have hS : va_S A s.heap s.heap [] := va_S.rf
  generalize hQ : (MQ below _ _ s 0 0 A) = Q
  have hl := lv_entry ([.ref h0]) (n := 1) (Nat.le_of_ble_eq_true rfl)
  rw [lg_entry_eq]
  generalize (lg_sl ([.ref h0]) ++ List.replicate (1 - (lg_sl ([.ref h0])).length) Slot.unset).toArray = ls at hl ⊢
  have hl : lv_has ls 1 [(0, .ref h0)] := hl
  obtain ⟨H, hH⟩ : ∃ H : Heap, H = s.heap := ⟨_, rfl⟩
  obtain ⟨locs, hlocs⟩ : ∃ y : List Loc, y = [] := ⟨_, rfl⟩
  have hS : va_S A s.heap H locs := by rw [hH, hlocs]; exact va_S.rf
  have hP : va_P (dC, dI) vwCl [(h0, .inr (7, [.ref h1, .ref r0, .int v0, .int v1])), (h1, .inl (g0, 58, .inl f2))] H := by rw [hH]; exact hP
  rw [← hH, ← hlocs]
  refine lv_aload_n hx hb dX7_day_0 rfl (lv_at hl 0 rfl) ?_
  refine va_get (D := (dC, dI)) (ci := 7) (v := .ref h1) (C := RX7) (T := TX7) (N := 4) hx hb hts (fun _ h => List.mem_cons_of_mem _ (List.mem_append_right _ h)) hown hK hP 0 rfl rfl 0 (by decide) (hts (.fieldLink RX7 11 "LeftArguments$Room" "cells" "[I") (List.mem_cons_of_mem _ (List.mem_append_left _ (List.mem_of_getElem? (i := 0) rfl)))) (fun _ h9 => h9) rfl dX7_day_1 ?_
  refine lv_bipush (v := 57) hx hb dX7_day_4 (by decide) ?_
  refine va_iald hx hb hK hP 1 0 rfl rfl (pv_c (x := 57) (n := 58) (by decide)) dX7_day_6 ?_
  refine lv_topi (fun t1 et1 => ?_)
  subst hQ
  have hP9 := hP.sub (ws' := [(h0, .inr (7, [.ref h1, .ref r0, .int v0, .int v1])), (h1, .inl (g0, 58, .inl f2))]) [0, 1] rfl
  have hD9 := hD.sub (ws' := [(h0, .inr (7, [.ref h1, .ref r0, .int v0, .int v1])), (h1, .inl (g0, 58, .inl f2))]) [0, 1] (by decide) rfl
  have hK9 := hK.sub (tys' := []) [] rfl
  exact W.iret (v := t1) hx hb hr (fun t ht hW => ⟨⟨t1, (), rfl, trivial, by rw [ht]; exact hP9, va_K.moved hW.alike hK9, hD9⟩, hS.F ht⟩) hS.2.2 dX7_day_7
def q_X7_set : List Cond := .code yX7_set cX7_set 4 none :: (([.fieldLink RX7 11 "LeftArguments$Room" "cells" "[I"] : List Cond) ++ wsX70)
set_option maxHeartbeats 4000000 in
set_option maxRecDepth 100000 in
theorem k_X7_set (l : Launch) (dC : Nat → ClassId) (dI : Nat → Nat → Nat) (h0 : Nat) (h1 : Nat) (r0 : Nat) (v0 : Int32) (v1 : Int32) (g0 : ClassId) (f2 : Nat → Int32) (v3 : Int32) (v4 : Int32) (v5 : Int32) (sz : Nat) : Met l yX7_set q_X7_set ({ frames := 0, cells := 0, slots := 0, locals := 0 }) (va_Pc [.ref h0, .int v3, .int v4, .int v5] (fun U => U.heap.size = sz ∧ va_P (dC, dI) vwCl [(h0, .inr (7, [.ref h1, .ref r0, .int v0, .int v1])), (h1, .inl (g0, 58, .inl f2))] U.heap ∧ va_K (dC, dI) vwCl [(g0, .int)] U ∧ va_D (fun _ => True) [(h0, .inr (7, [.ref h1, .ref r0, .int v0, .int v1])), (h1, .inl (g0, 58, .inl f2))])) (va_Qv (fun (_ : Unit) => True) (fun (_ : Unit) (t : State) => ∃ (o_h1 : Nat → Int32), va_P (dC, dI) vwCl [(h0, .inr (7, [.ref h1, .ref r0, .int v0, .int v1])), (h1, .inl (g0, 58, .inl o_h1))] t.heap ∧ va_K (dC, dI) vwCl [] t ∧ va_D (va_A [(h0, .inr (7, [.ref h1, .ref r0, .int v0, .int v1])), (h1, .inl (g0, 58, .inl f2))] sz) [(h0, .inr (7, [.ref h1, .ref r0, .int v0, .int v1])), (h1, .inl (g0, 58, .inl o_h1))]) (va_A [(h0, .inr (7, [.ref h1, .ref r0, .int v0, .int v1])), (h1, .inl (g0, 58, .inl f2))] sz)) 0 0 (va_A [(h0, .inr (7, [.ref h1, .ref r0, .int v0, .int v1])), (h1, .inl (g0, 58, .inl f2))] sz) := by
  refine Met.ofW (cc := cX7_set) (maxL := 4) (ret := none) (by decide) rfl ?_
  intro p e s m args below meth c s₁ B hml hv
  obtain ⟨rfl, hsz, hP, hK, hD0⟩ := hv
  have hx := B.exec
  have hb := B.bytes
  have hr := B.returns
  have hts := atoms_spec (ws := q_X7_set) B.pre
  have hown : s.vm.findClass RX7 = some m.cls := findClass_of_methodNamed B.named
  have hlocks := B.notSynchronized
  subst hsz
  have hD := hD0.self (sz := s.heap.size)
  generalize hAe : va_A [(h0, .inr (7, [.ref h1, .ref r0, .int v0, .int v1])), (h1, .inl (g0, 58, .inl f2))] s.heap.size = A at hD ⊢
  have hA : ∀ q : Nat, s.heap.size ≤ q → A q := fun q h => by rw [← hAe]; exact Or.inr h
  have hS : va_S A s.heap s.heap [] := va_S.rf
  generalize hQ : (MQ below _ _ s 0 0 A) = Q
  have hl := lv_entry ([.ref h0, .int v3, .int v4, .int v5]) (n := 4) (Nat.le_of_ble_eq_true rfl)
  rw [lg_entry_eq]
  generalize (lg_sl ([.ref h0, .int v3, .int v4, .int v5]) ++ List.replicate (4 - (lg_sl ([.ref h0, .int v3, .int v4, .int v5])).length) Slot.unset).toArray = ls at hl ⊢
  have hl : lv_has ls 4 [(0, .ref h0), (1, .int v3), (2, .int v4), (3, .int v5)] := hl
  obtain ⟨H, hH⟩ : ∃ H : Heap, H = s.heap := ⟨_, rfl⟩
  obtain ⟨locs, hlocs⟩ : ∃ y : List Loc, y = [] := ⟨_, rfl⟩
  have hS : va_S A s.heap H locs := by rw [hH, hlocs]; exact va_S.rf
  have hP : va_P (dC, dI) vwCl [(h0, .inr (7, [.ref h1, .ref r0, .int v0, .int v1])), (h1, .inl (g0, 58, .inl f2))] H := by rw [hH]; exact hP
  rw [← hH, ← hlocs]
  refine lv_iload_n hx hb dX7_set_0 rfl (lv_at hl 1 rfl) ?_
  have hJ2 : ∀ (fn1 : Nat → Int32) (H : Heap) (locs : List Loc) (ls : Array Slot), va_P (dC, dI) vwCl [(h0, .inr (7, [.ref h1, .ref r0, .int v0, .int v1])), (h1, .inl (g0, 58, .inl fn1))] H → va_D A [(h0, .inr (7, [.ref h1, .ref r0, .int v0, .int v1])), (h1, .inl (g0, 58, .inl fn1))] → va_S A s.heap H locs → lv_has ls 4 [(0, .ref h0), (1, .int v3), (2, .int v4), (3, .int v5)] → W p l e ({ frames := 0, cells := 0, slots := 0, locals := 0 }) s m ([.ref h0, .int v3, .int v4, .int v5] : List Value).toArray below meth c H locs 0 0 Q (F0 m 32 ls []) := by
    intro fn1 H locs ls hP hD hS hl
    subst hQ
    have hP9 := hP.sub (ws' := [(h0, .inr (7, [.ref h1, .ref r0, .int v0, .int v1])), (h1, .inl (g0, 58, .inl fn1))]) [0, 1] rfl
    have hD9 := hD.sub (ws' := [(h0, .inr (7, [.ref h1, .ref r0, .int v0, .int v1])), (h1, .inl (g0, 58, .inl fn1))]) [0, 1] (by decide) rfl
    have hK9 := hK.sub (tys' := []) [] rfl
    exact W.vret hx hb hr (fun t ht hW => ⟨⟨(), rfl, trivial, fn1, by rw [ht]; exact hP9, va_K.moved hW.alike hK9, hD9⟩, hS.F ht⟩) hS.2.2 dX7_set_32
  refine lv_if_lt (tgt := 32) hx hb dX7_set_1 (by decide) (fun c3 => ?_) (fun c3 => ?_)
  · skip
    have fc3 : v3.toInt < 0 := Int32.lt_iff_toInt_lt.mp c3
    exact hJ2 f2 H locs ls hP hD hS (lv_sub hl [0, 1, 2, 3] rfl)
  · skip
    have fc3 : ¬ (v3.toInt < 0) := fun h9 => c3 (Int32.lt_iff_toInt_lt.mpr h9)
    refine lv_iload_n hx hb dX7_set_4 rfl (lv_at hl 1 rfl) ?_
    refine lv_bipush (v := 8) hx hb dX7_set_5 (by decide) ?_
    refine lv_icmp_ge (tgt := 32) hx hb dX7_set_7 (by decide) (fun c4 => ?_) (fun c4 => ?_)
    · skip
      have fc4 : 8 ≤ v3.toInt := Int32.le_iff_toInt_le.mp c4
      exact hJ2 f2 H locs ls hP hD hS (lv_sub hl [0, 1, 2, 3] rfl)
    · skip
      have fc4 : ¬ (8 ≤ v3.toInt) := fun h9 => c4 (Int32.le_iff_toInt_le.mpr h9)
      refine lv_iload_n hx hb dX7_set_10 rfl (lv_at hl 2 rfl) ?_
      refine lv_if_lt (tgt := 32) hx hb dX7_set_11 (by decide) (fun c5 => ?_) (fun c5 => ?_)
      · skip
        have fc5 : v4.toInt < 0 := Int32.lt_iff_toInt_lt.mp c5
        exact hJ2 f2 H locs ls hP hD hS (lv_sub hl [0, 1, 2, 3] rfl)
      · skip
        have fc5 : ¬ (v4.toInt < 0) := fun h9 => c5 (Int32.lt_iff_toInt_lt.mpr h9)
        refine lv_iload_n hx hb dX7_set_14 rfl (lv_at hl 2 rfl) ?_
        refine lv_bipush (v := 7) hx hb dX7_set_15 (by decide) ?_
        refine lv_icmp_ge (tgt := 32) hx hb dX7_set_17 (by decide) (fun c6 => ?_) (fun c6 => ?_)
        · skip
          have fc6 : 7 ≤ v4.toInt := Int32.le_iff_toInt_le.mp c6
          exact hJ2 f2 H locs ls hP hD hS (lv_sub hl [0, 1, 2, 3] rfl)
        · skip
          have fc6 : ¬ (7 ≤ v4.toInt) := fun h9 => c6 (Int32.le_iff_toInt_le.mpr h9)
          refine lv_aload_n hx hb dX7_set_20 rfl (lv_at hl 0 rfl) ?_
          refine va_get (D := (dC, dI)) (ci := 7) (v := .ref h1) (C := RX7) (T := TX7) (N := 4) hx hb hts (fun _ h => List.mem_cons_of_mem _ (List.mem_append_right _ h)) hown hK hP 0 rfl rfl 0 (by decide) (hts (.fieldLink RX7 11 "LeftArguments$Room" "cells" "[I") (List.mem_cons_of_mem _ (List.mem_append_left _ (List.mem_of_getElem? (i := 0) rfl)))) (fun _ h9 => h9) rfl dX7_set_21 ?_
          refine lv_iload_n hx hb dX7_set_24 rfl (lv_at hl 2 rfl) ?_
          refine lv_bipush (v := 8) hx hb dX7_set_25 (by decide) ?_
          refine lv_imul hx hb dX7_set_27 ?_
          refine lv_topi (fun t7 et7 => ?_)
          have gt7 : t7.toInt = v4.toInt * 8 := pv_mul (a := v4.toInt) (b := 8) et7 rfl (by decide) (by omega) (by omega)
          refine lv_iload_n hx hb dX7_set_28 rfl (lv_at hl 1 rfl) ?_
          refine lv_iadd hx hb dX7_set_29 ?_
          refine lv_topi (fun t8 et8 => ?_)
          have gt8 : t8.toInt = t7.toInt + v3.toInt := pv_add (a := t7.toInt) (b := v3.toInt) et8 rfl rfl (by omega) (by omega)
          refine lv_iload_n hx hb dX7_set_30 rfl (lv_at hl 3 rfl) ?_
          refine va_iast hx hb hK hP hD hS 1 0 rfl rfl (vp_in_iff.mpr ⟨by omega, by omega⟩) dX7_set_31 (fun H locs hP hD hS => ?_)
          obtain ⟨fn9, efn9⟩ : ∃ g : Nat → Int32, g = upd f2 (Int32.toNatClampNeg t8) v5 := ⟨_, rfl⟩
          rw [← efn9] at hP hD
          have hP : va_P (dC, dI) vwCl [(h0, .inr (7, [.ref h1, .ref r0, .int v0, .int v1])), (h1, .inl (g0, 58, .inl fn9))] H := hP
          have hD : va_D A [(h0, .inr (7, [.ref h1, .ref r0, .int v0, .int v1])), (h1, .inl (g0, 58, .inl fn9))] := hD
          exact hJ2 fn9 H locs ls hP hD hS (lv_sub hl [0, 1, 2, 3] rfl)
def q_X7_loadOn : List Cond := .code yX7_loadOn cX7_loadOn 4 (some .int) :: (([.fieldLink RX7 11 "LeftArguments$Room" "cells" "[I"] : List Cond) ++ wsX70)
set_option maxHeartbeats 4000000 in
set_option maxRecDepth 100000 in
theorem k_X7_loadOn (l : Launch) (dC : Nat → ClassId) (dI : Nat → Nat → Nat) (h0 : Nat) (h1 : Nat) (r0 : Nat) (v0 : Int32) (v1 : Int32) (g0 : ClassId) (f2 : Nat → Int32) (v3 : Int32) (sz : Nat) : Met l yX7_loadOn q_X7_loadOn ({ frames := 0, cells := 0, slots := 0, locals := 0 }) (va_Pc [.ref h0, .int v3] (fun U => U.heap.size = sz ∧ va_P (dC, dI) vwCl [(h0, .inr (7, [.ref h1, .ref r0, .int v0, .int v1])), (h1, .inl (g0, 58, .inl f2))] U.heap ∧ va_K (dC, dI) vwCl [(g0, .int)] U ∧ va_D (fun _ => True) [(h0, .inr (7, [.ref h1, .ref r0, .int v0, .int v1])), (h1, .inl (g0, 58, .inl f2))])) (va_Qi (fun (r : Int32) (_ : Unit) => True) (fun (_ : Unit) (t : State) => va_P (dC, dI) vwCl [(h0, .inr (7, [.ref h1, .ref r0, .int v0, .int v1])), (h1, .inl (g0, 58, .inl f2))] t.heap ∧ va_K (dC, dI) vwCl [] t ∧ va_D (va_A [(h0, .inr (7, [.ref h1, .ref r0, .int v0, .int v1])), (h1, .inl (g0, 58, .inl f2))] sz) [(h0, .inr (7, [.ref h1, .ref r0, .int v0, .int v1])), (h1, .inl (g0, 58, .inl f2))]) (va_A [(h0, .inr (7, [.ref h1, .ref r0, .int v0, .int v1])), (h1, .inl (g0, 58, .inl f2))] sz)) 0 0 (va_A [(h0, .inr (7, [.ref h1, .ref r0, .int v0, .int v1])), (h1, .inl (g0, 58, .inl f2))] sz) := by
  refine Met.ofW (cc := cX7_loadOn) (maxL := 4) (ret := (some .int)) (by decide) rfl ?_
  intro p e s m args below meth c s₁ B hml hv
  obtain ⟨rfl, hsz, hP, hK, hD0⟩ := hv
  have hx := B.exec
  have hb := B.bytes
  have hr := B.returns
  have hts := atoms_spec (ws := q_X7_loadOn) B.pre
  have hown : s.vm.findClass RX7 = some m.cls := findClass_of_methodNamed B.named
  have hlocks := B.notSynchronized
  subst hsz
  have hD := hD0.self (sz := s.heap.size)
  generalize hAe : va_A [(h0, .inr (7, [.ref h1, .ref r0, .int v0, .int v1])), (h1, .inl (g0, 58, .inl f2))] s.heap.size = A at hD ⊢
  have hA : ∀ q : Nat, s.heap.size ≤ q → A q := fun q h => by rw [← hAe]; exact Or.inr h
  have hS : va_S A s.heap s.heap [] := va_S.rf
  generalize hQ : (MQ below _ _ s 0 0 A) = Q
  have hl := lv_entry ([.ref h0, .int v3]) (n := 4) (Nat.le_of_ble_eq_true rfl)
  rw [lg_entry_eq]
  generalize (lg_sl ([.ref h0, .int v3]) ++ List.replicate (4 - (lg_sl ([.ref h0, .int v3])).length) Slot.unset).toArray = ls at hl ⊢
  have hl : lv_has ls 4 [(0, .ref h0), (1, .int v3)] := hl
  obtain ⟨H, hH⟩ : ∃ H : Heap, H = s.heap := ⟨_, rfl⟩
  obtain ⟨locs, hlocs⟩ : ∃ y : List Loc, y = [] := ⟨_, rfl⟩
  have hS : va_S A s.heap H locs := by rw [hH, hlocs]; exact va_S.rf
  have hP : va_P (dC, dI) vwCl [(h0, .inr (7, [.ref h1, .ref r0, .int v0, .int v1])), (h1, .inl (g0, 58, .inl f2))] H := by rw [hH]; exact hP
  rw [← hH, ← hlocs]
  refine lv_iconst (v := 0) hx hb dX7_loadOn_0 (by decide) ?_
  refine lv_istore_n (lv' := [(2, .int 0), (0, .ref h0), (1, .int v3)]) hx hb dX7_loadOn_1 rfl hl (by decide) rfl (fun ls hl => ?_)
  refine lv_iconst (v := 0) hx hb dX7_loadOn_2 (by decide) ?_
  refine lv_istore_n (lv' := [(3, .int 0), (2, .int 0), (0, .ref h0), (1, .int v3)]) hx hb dX7_loadOn_3 rfl hl (by decide) rfl (fun ls hl => ?_)
  have hL9 : ∀ (n9 : Nat), ∀ (x5 : Int32) (x6 : Int32) (H : Heap) (locs : List Loc) (ls : Array Slot), 0 ≤ x5.toInt → x5.toInt ≤ 8 → (8 - x5.toInt).toNat < n9 → va_P (dC, dI) vwCl [(h0, .inr (7, [.ref h1, .ref r0, .int v0, .int v1])), (h1, .inl (g0, 58, .inl f2))] H → va_D A [(h0, .inr (7, [.ref h1, .ref r0, .int v0, .int v1])), (h1, .inl (g0, 58, .inl f2))] → va_S A s.heap H locs → lv_has ls 4 [(3, .int x5), (2, .int x6), (0, .ref h0), (1, .int v3)] → W p l e ({ frames := 0, cells := 0, slots := 0, locals := 0 }) s m ([.ref h0, .int v3] : List Value).toArray below meth c H locs 0 0 Q (F0 m 4 ls []) := by
    intro n9
    induction n9 with
    | zero => intro x5 x6 H locs ls q0_x5 q1_x5 hm9 hP hD hS hl; exact absurd hm9 (Nat.not_lt_zero _)
    | succ n9 ih =>
      intro x5 x6 H locs ls q0_x5 q1_x5 hm9 hP hD hS hl
      refine lv_iload_n hx hb dX7_loadOn_4 rfl (lv_at hl 0 rfl) ?_
      refine lv_bipush (v := 8) hx hb dX7_loadOn_5 (by decide) ?_
      refine lv_icmp_ge (tgt := 38) hx hb dX7_loadOn_7 (by decide) (fun c10 => ?_) (fun c10 => ?_)
      · skip
        have fc10 : 8 ≤ x5.toInt := Int32.le_iff_toInt_le.mp c10
        refine lv_iload_n hx hb dX7_loadOn_38 rfl (lv_at hl 1 rfl) ?_
        subst hQ
        have hP9 := hP.sub (ws' := [(h0, .inr (7, [.ref h1, .ref r0, .int v0, .int v1])), (h1, .inl (g0, 58, .inl f2))]) [0, 1] rfl
        have hD9 := hD.sub (ws' := [(h0, .inr (7, [.ref h1, .ref r0, .int v0, .int v1])), (h1, .inl (g0, 58, .inl f2))]) [0, 1] (by decide) rfl
        have hK9 := hK.sub (tys' := []) [] rfl
        exact W.iret (v := x6) hx hb hr (fun t ht hW => ⟨⟨x6, (), rfl, trivial, by rw [ht]; exact hP9, va_K.moved hW.alike hK9, hD9⟩, hS.F ht⟩) hS.2.2 dX7_loadOn_39
      · skip
        have fc10 : ¬ (8 ≤ x5.toInt) := fun h9 => c10 (Int32.le_iff_toInt_le.mpr h9)
        refine lv_aload_n hx hb dX7_loadOn_10 rfl (lv_at hl 2 rfl) ?_
        refine va_get (D := (dC, dI)) (ci := 7) (v := .ref h1) (C := RX7) (T := TX7) (N := 4) hx hb hts (fun _ h => List.mem_cons_of_mem _ (List.mem_append_right _ h)) hown hK hP 0 rfl rfl 0 (by decide) (hts (.fieldLink RX7 11 "LeftArguments$Room" "cells" "[I") (List.mem_cons_of_mem _ (List.mem_append_left _ (List.mem_of_getElem? (i := 0) rfl)))) (fun _ h9 => h9) rfl dX7_loadOn_11 ?_
        refine lv_bipush (v := 24) hx hb dX7_loadOn_14 (by decide) ?_
        refine lv_iload_n hx hb dX7_loadOn_16 rfl (lv_at hl 0 rfl) ?_
        refine lv_iadd hx hb dX7_loadOn_17 ?_
        refine lv_topi (fun t11 et11 => ?_)
        have gt11 : t11.toInt = 24 + x5.toInt := pv_add (a := 24) (b := x5.toInt) et11 (by decide) rfl (by omega) (by omega)
        refine va_iald hx hb hK hP 1 0 rfl rfl (vp_in_iff.mpr ⟨by omega, by omega⟩) dX7_loadOn_18 ?_
        refine lv_topi (fun t12 et12 => ?_)
        refine lv_iload_n hx hb dX7_loadOn_19 rfl (lv_at hl 3 rfl) ?_
        have hJ14 : ∀ (x13 : Int32) (H : Heap) (locs : List Loc) (ls : Array Slot), va_P (dC, dI) vwCl [(h0, .inr (7, [.ref h1, .ref r0, .int v0, .int v1])), (h1, .inl (g0, 58, .inl f2))] H → va_D A [(h0, .inr (7, [.ref h1, .ref r0, .int v0, .int v1])), (h1, .inl (g0, 58, .inl f2))] → va_S A s.heap H locs → lv_has ls 4 [(3, .int x5), (2, .int x13), (0, .ref h0), (1, .int v3)] → W p l e ({ frames := 0, cells := 0, slots := 0, locals := 0 }) s m ([.ref h0, .int v3] : List Value).toArray below meth c H locs 0 0 Q (F0 m 32 ls []) := by
          intro x13 H locs ls hP hD hS hl
          obtain ⟨t15, et15⟩ : ∃ y : Int32, y = x5 + 1 := ⟨_, rfl⟩
          have gt15 : t15.toInt = x5.toInt + (1) := pv_add (a := x5.toInt) (b := (1)) et15 rfl (by decide) (by omega) (by omega)
          refine lv_iinc (v := t15) (lv' := [(3, .int t15), (2, .int x13), (0, .ref h0), (1, .int v3)]) hx hb dX7_loadOn_32 hl (k := 0) rfl (by rw [et15]; rfl) (by decide) rfl (fun ls hl => ?_)
          refine lv_goto (tgt := 4) hx hb dX7_loadOn_35 (by decide) ?_
          exact ih t15 x13 H locs ls (by first | omega | decide) (by first | omega | decide) (by first | omega | (simp only [Int.toNat] at *; omega)) hP hD hS (lv_sub hl [0, 1, 2, 3] rfl)
        refine lv_icmp_ne (tgt := 32) hx hb dX7_loadOn_20 (by decide) (fun c16 => ?_) (fun c16 => ?_)
        · skip
          have fc16 : ¬ (t12.toInt = v3.toInt) := fun h9 => c16 (Int32.toInt_inj.mp h9)
          exact hJ14 x6 H locs ls hP hD hS (lv_sub hl [0, 1, 2, 3] rfl)
        · skip
          have fc16 : t12.toInt = v3.toInt := congrArg Int32.toInt c16
          refine lv_iload_n hx hb dX7_loadOn_23 rfl (lv_at hl 1 rfl) ?_
          refine lv_aload_n hx hb dX7_loadOn_24 rfl (lv_at hl 2 rfl) ?_
          refine va_get (D := (dC, dI)) (ci := 7) (v := .ref h1) (C := RX7) (T := TX7) (N := 4) hx hb hts (fun _ h => List.mem_cons_of_mem _ (List.mem_append_right _ h)) hown hK hP 0 rfl rfl 0 (by decide) (hts (.fieldLink RX7 11 "LeftArguments$Room" "cells" "[I") (List.mem_cons_of_mem _ (List.mem_append_left _ (List.mem_of_getElem? (i := 0) rfl)))) (fun _ h9 => h9) rfl dX7_loadOn_25 ?_
          refine lv_iload_n hx hb dX7_loadOn_28 rfl (lv_at hl 0 rfl) ?_
          refine va_iald hx hb hK hP 1 0 rfl rfl (vp_in_iff.mpr ⟨by omega, by omega⟩) dX7_loadOn_29 ?_
          refine lv_topi (fun t17 et17 => ?_)
          refine lv_iadd hx hb dX7_loadOn_30 ?_
          refine lv_topi (fun t18 et18 => ?_)
          refine lv_istore_n (lv' := [(2, .int t18), (3, .int x5), (0, .ref h0), (1, .int v3)]) hx hb dX7_loadOn_31 rfl hl (by decide) rfl (fun ls hl => ?_)
          exact hJ14 t18 H locs ls hP hD hS (lv_sub hl [1, 0, 2, 3] rfl)
  exact hL9 _ 0 0 H locs ls (by first | omega | decide) (by first | omega | decide) (Nat.lt_succ_self _) hP hD hS (lv_sub hl [0, 1, 2, 3] rfl)
def q_X7_freePlace : List Cond := .code yX7_freePlace cX7_freePlace 2 (some .int) :: (([.code yX7_has cX7_has 2 (some .boolean), .fieldLink RX7 11 "LeftArguments$Room" "cells" "[I", .initialized RX7, .instanceMethod yX7_has, .selects RX7 yX7_has yX7_has, .methodLink RX7 70 yX7_has] : List Cond) ++ wsX70)
set_option maxRecDepth 20000 in
theorem g_X7_freePlace_0 : GoodIn q_X7_freePlace (wsV RX7 70 RX7 yX7_has q_X7_has) := goodIn_app (goodIn_r _ [6, 4, 5, 3] (by decide +kernel) (by decide +kernel)) (goodIn_ca (goodIn_r (.code yX7_has cX7_has 2 (some .boolean) :: [.fieldLink RX7 11 "LeftArguments$Room" "cells" "[I"]) [1, 2] (by decide +kernel) (by decide +kernel)) (goodIn_sub (fun _ h => List.mem_cons_of_mem _ (List.mem_append_right _ h)) gwX7))
set_option maxHeartbeats 4000000 in
set_option maxRecDepth 100000 in
theorem k_X7_freePlace (l : Launch) (dC : Nat → ClassId) (dI : Nat → Nat → Nat) (h0 : Nat) (h1 : Nat) (r0 : Nat) (v0 : Int32) (v1 : Int32) (g0 : ClassId) (f2 : Nat → Int32) (sz : Nat) : Met l yX7_freePlace q_X7_freePlace ({ frames := 1, cells := 0, slots := 0, locals := 21 }) (va_Pc [.ref h0] (fun U => U.heap.size = sz ∧ va_P (dC, dI) vwCl [(h0, .inr (7, [.ref h1, .ref r0, .int v0, .int v1])), (h1, .inl (g0, 58, .inl f2))] U.heap ∧ va_K (dC, dI) vwCl [(g0, .int)] U ∧ va_D (fun _ => True) [(h0, .inr (7, [.ref h1, .ref r0, .int v0, .int v1])), (h1, .inl (g0, 58, .inl f2))])) (va_Qi (fun (r : Int32) (_ : Unit) => -1 ≤ r.toInt ∧ r.toInt ≤ 7) (fun (_ : Unit) (t : State) => va_P (dC, dI) vwCl [(h0, .inr (7, [.ref h1, .ref r0, .int v0, .int v1])), (h1, .inl (g0, 58, .inl f2))] t.heap ∧ va_K (dC, dI) vwCl [] t ∧ va_D (va_A [(h0, .inr (7, [.ref h1, .ref r0, .int v0, .int v1])), (h1, .inl (g0, 58, .inl f2))] sz) [(h0, .inr (7, [.ref h1, .ref r0, .int v0, .int v1])), (h1, .inl (g0, 58, .inl f2))]) (va_A [(h0, .inr (7, [.ref h1, .ref r0, .int v0, .int v1])), (h1, .inl (g0, 58, .inl f2))] sz)) 0 0 (va_A [(h0, .inr (7, [.ref h1, .ref r0, .int v0, .int v1])), (h1, .inl (g0, 58, .inl f2))] sz) := by
  refine Met.ofW (cc := cX7_freePlace) (maxL := 2) (ret := (some .int)) (by decide) rfl ?_
  intro p e s m args below meth c s₁ B hml hv
  obtain ⟨rfl, hsz, hP, hK, hD0⟩ := hv
  have hx := B.exec
  have hb := B.bytes
  have hr := B.returns
  have hts := atoms_spec (ws := q_X7_freePlace) B.pre
  have hown : s.vm.findClass RX7 = some m.cls := findClass_of_methodNamed B.named
  have hlocks := B.notSynchronized
  subst hsz
  have hD := hD0.self (sz := s.heap.size)
  generalize hAe : va_A [(h0, .inr (7, [.ref h1, .ref r0, .int v0, .int v1])), (h1, .inl (g0, 58, .inl f2))] s.heap.size = A at hD ⊢
  have hA : ∀ q : Nat, s.heap.size ≤ q → A q := fun q h => by rw [← hAe]; exact Or.inr h
  have hS : va_S A s.heap s.heap [] := va_S.rf
  generalize hQ : (MQ below _ _ s 0 0 A) = Q
  have hl := lv_entry ([.ref h0]) (n := 2) (Nat.le_of_ble_eq_true rfl)
  rw [lg_entry_eq]
  generalize (lg_sl ([.ref h0]) ++ List.replicate (2 - (lg_sl ([.ref h0])).length) Slot.unset).toArray = ls at hl ⊢
  have hl : lv_has ls 2 [(0, .ref h0)] := hl
  obtain ⟨H, hH⟩ : ∃ H : Heap, H = s.heap := ⟨_, rfl⟩
  obtain ⟨locs, hlocs⟩ : ∃ y : List Loc, y = [] := ⟨_, rfl⟩
  have hS : va_S A s.heap H locs := by rw [hH, hlocs]; exact va_S.rf
  have hP : va_P (dC, dI) vwCl [(h0, .inr (7, [.ref h1, .ref r0, .int v0, .int v1])), (h1, .inl (g0, 58, .inl f2))] H := by rw [hH]; exact hP
  rw [← hH, ← hlocs]
  refine lv_iconst (v := 0) hx hb dX7_freePlace_0 (by decide) ?_
  refine lv_istore_n (lv' := [(1, .int 0), (0, .ref h0)]) hx hb dX7_freePlace_1 rfl hl (by decide) rfl (fun ls hl => ?_)
  have hL5 : ∀ (n9 : Nat), ∀ (x3 : Int32) (H : Heap) (locs : List Loc) (ls : Array Slot), 0 ≤ x3.toInt → x3.toInt ≤ 8 → (8 - x3.toInt).toNat < n9 → va_P (dC, dI) vwCl [(h0, .inr (7, [.ref h1, .ref r0, .int v0, .int v1])), (h1, .inl (g0, 58, .inl f2))] H → va_D A [(h0, .inr (7, [.ref h1, .ref r0, .int v0, .int v1])), (h1, .inl (g0, 58, .inl f2))] → va_S A s.heap H locs → lv_has ls 2 [(1, .int x3), (0, .ref h0)] → W p l e ({ frames := 1, cells := 0, slots := 0, locals := 21 }) s m ([.ref h0] : List Value).toArray below meth c H locs 0 0 Q (F0 m 2 ls []) := by
    intro n9
    induction n9 with
    | zero => intro x3 H locs ls q0_x3 q1_x3 hm9 hP hD hS hl; exact absurd hm9 (Nat.not_lt_zero _)
    | succ n9 ih =>
      intro x3 H locs ls q0_x3 q1_x3 hm9 hP hD hS hl
      refine lv_iload_n hx hb dX7_freePlace_2 rfl (lv_at hl 0 rfl) ?_
      refine lv_bipush (v := 8) hx hb dX7_freePlace_3 (by decide) ?_
      refine lv_icmp_ge (tgt := 24) hx hb dX7_freePlace_5 (by decide) (fun c6 => ?_) (fun c6 => ?_)
      · skip
        have fc6 : 8 ≤ x3.toInt := Int32.le_iff_toInt_le.mp c6
        refine lv_iconst (v := (-1)) hx hb dX7_freePlace_24 (by decide) ?_
        subst hQ
        have hP9 := hP.sub (ws' := [(h0, .inr (7, [.ref h1, .ref r0, .int v0, .int v1])), (h1, .inl (g0, 58, .inl f2))]) [0, 1] rfl
        have hD9 := hD.sub (ws' := [(h0, .inr (7, [.ref h1, .ref r0, .int v0, .int v1])), (h1, .inl (g0, 58, .inl f2))]) [0, 1] (by decide) rfl
        have hK9 := hK.sub (tys' := []) [] rfl
        exact W.iret (v := (-1)) hx hb hr (fun t ht hW => ⟨⟨(-1), (), rfl, ⟨by first | omega | decide, by first | omega | decide⟩, by rw [ht]; exact hP9, va_K.moved hW.alike hK9, hD9⟩, hS.F ht⟩) hS.2.2 dX7_freePlace_25
      · skip
        have fc6 : ¬ (8 ≤ x3.toInt) := fun h9 => c6 (Int32.le_iff_toInt_le.mpr h9)
        refine lv_aload_n hx hb dX7_freePlace_8 rfl (lv_at hl 1 rfl) ?_
        refine lv_iload_n hx hb dX7_freePlace_9 rfl (lv_at hl 0 rfl) ?_
        have hPc := hP.sub (ws' := [(h0, .inr (7, [.ref h1, .ref r0, .int v0, .int v1])), (h1, .inl (g0, 58, .inl f2))]) [0, 1] rfl
        have hDc := hD.sub (ws' := [(h0, .inr (7, [.ref h1, .ref r0, .int v0, .int v1])), (h1, .inl (g0, 58, .inl f2))]) [0, 1] (by decide) rfl
        have hKc := hK.sub (tys' := [(g0, .int)]) [0] rfl
        have hFc := va_free (wc := [(h0, .inr (7, [.ref h1, .ref r0, .int v0, .int v1])), (h1, .inl (g0, 58, .inl f2))]) hD hS hA [0, 1] rfl
        refine va_calli (va_runV (As := [.int x3]) (rest := []) ⟨hx, hb, hml, hown, hts⟩ (k_X7_has l dC dI h0 h1 r0 v0 v1 g0 f2 x3  H.size) (cwV 1 hts g_X7_freePlace_0 rfl rfl rfl (by decide +kernel) ⟨Nat.le_of_ble_eq_true rfl, Nat.le_of_ble_eq_true rfl⟩) ⟨fun a U g mk q => by obtain ⟨q0, q1, qP, qK, qD⟩ := q; exact ⟨q0, q1, qP, va_K.moved (u := U) (U := U.calling g mk a) (Vm.Alike.refl U.vm) qK, qD⟩, va_recv hKc hPc (ci := 7) (q0 := 0) rfl rfl, fun U hU hW => ⟨rfl, by rw [hU], by rw [hU]; exact hPc, va_K.moved hW.alike hKc, hDc.weaken (fun _ _ _ _ => trivial)⟩⟩ rfl rfl hl.1 rfl (lv_room (Nat.le_of_ble_eq_true rfl)) dX7_freePlace_10 ⟨Nat.le_of_ble_eq_true rfl, Nat.le_of_ble_eq_true rfl⟩) hS (fun q _ h => hFc q h) hFc (fun ra7 u t H1 locs ht hvm hwra7 hB hz1 hk1 hS => ?_)
        obtain ⟨hP1, hK1, hD1⟩ := hB
        rw [ht] at hP1
        obtain ⟨hP, hD⟩ := va_join (wr := []) (w1 := [(h0, .inr (7, [.ref h1, .ref r0, .int v0, .int v1])), (h1, .inl (g0, 58, .inl f2))]) hP hD [0, 1] [] rfl rfl (by decide) (by decide) hk1 hFc hP1 hD1
        generalize H1 = H at hP hS ⊢
        have hP : va_P (dC, dI) vwCl [(h0, .inr (7, [.ref h1, .ref r0, .int v0, .int v1])), (h1, .inl (g0, 58, .inl f2))] H := hP
        have hD : va_D A [(h0, .inr (7, [.ref h1, .ref r0, .int v0, .int v1])), (h1, .inl (g0, 58, .inl f2))] := hD
        obtain ⟨wa_ra7, wb_ra7⟩ := hwra7
        have wa_ra7 : 0 ≤ ra7.toInt := wa_ra7
        have wb_ra7 : ra7.toInt ≤ 1 := wb_ra7
        refine lv_if_ne (tgt := 18) hx hb dX7_freePlace_13 (by decide) (fun c8 => ?_) (fun c8 => ?_)
        · skip
          have fc8 : ¬ (ra7.toInt = 0) := fun h9 => c8 (Int32.toInt_inj.mp h9)
          obtain ⟨t9, et9⟩ : ∃ y : Int32, y = x3 + 1 := ⟨_, rfl⟩
          have gt9 : t9.toInt = x3.toInt + (1) := pv_add (a := x3.toInt) (b := (1)) et9 rfl (by decide) (by omega) (by omega)
          refine lv_iinc (v := t9) (lv' := [(1, .int t9), (0, .ref h0)]) hx hb dX7_freePlace_18 hl (k := 0) rfl (by rw [et9]; rfl) (by decide) rfl (fun ls hl => ?_)
          refine lv_goto (tgt := 2) hx hb dX7_freePlace_21 (by decide) ?_
          exact ih t9 H locs ls (by first | omega | decide) (by first | omega | decide) (by first | omega | (simp only [Int.toNat] at *; omega)) hP hD hS (lv_sub hl [0, 1] rfl)
        · skip
          have fc8 : ra7.toInt = 0 := congrArg Int32.toInt c8
          refine lv_iload_n hx hb dX7_freePlace_16 rfl (lv_at hl 0 rfl) ?_
          subst hQ
          have hP9 := hP.sub (ws' := [(h0, .inr (7, [.ref h1, .ref r0, .int v0, .int v1])), (h1, .inl (g0, 58, .inl f2))]) [0, 1] rfl
          have hD9 := hD.sub (ws' := [(h0, .inr (7, [.ref h1, .ref r0, .int v0, .int v1])), (h1, .inl (g0, 58, .inl f2))]) [0, 1] (by decide) rfl
          have hK9 := hK.sub (tys' := []) [] rfl
          exact W.iret (v := x3) hx hb hr (fun t ht hW => ⟨⟨x3, (), rfl, ⟨by first | omega | decide, by first | omega | decide⟩, by rw [ht]; exact hP9, va_K.moved hW.alike hK9, hD9⟩, hS.F ht⟩) hS.2.2 dX7_freePlace_17
  exact hL5 _ 0 H locs ls (by first | omega | decide) (by first | omega | decide) (Nat.lt_succ_self _) hP hD hS (lv_sub hl [0, 1] rfl)
def q_X7_othersWith : List Cond := .code yX7_othersWith cX7_othersWith 5 (some .int) :: (([.code yX7_of cX7_of 3 (some .int), .fieldLink RX7 11 "LeftArguments$Room" "cells" "[I", .initialized RX7, .instanceMethod yX7_of, .selects RX7 yX7_of yX7_of, .methodLink RX7 74 yX7_of] : List Cond) ++ wsX70)
set_option maxRecDepth 20000 in
theorem g_X7_othersWith_0 : GoodIn q_X7_othersWith (wsV RX7 74 RX7 yX7_of q_X7_of) := goodIn_app (goodIn_r _ [6, 4, 5, 3] (by decide +kernel) (by decide +kernel)) (goodIn_ca (goodIn_r (.code yX7_of cX7_of 3 (some .int) :: [.fieldLink RX7 11 "LeftArguments$Room" "cells" "[I"]) [1, 2] (by decide +kernel) (by decide +kernel)) (goodIn_sub (fun _ h => List.mem_cons_of_mem _ (List.mem_append_right _ h)) gwX7))
set_option maxHeartbeats 4000000 in
set_option maxRecDepth 100000 in
theorem k_X7_othersWith (l : Launch) (dC : Nat → ClassId) (dI : Nat → Nat → Nat) (h0 : Nat) (h1 : Nat) (r0 : Nat) (v0 : Int32) (v1 : Int32) (g0 : ClassId) (f2 : Nat → Int32) (v3 : Int32) (sz : Nat) : Met l yX7_othersWith q_X7_othersWith ({ frames := 1, cells := 0, slots := 0, locals := 22 }) (va_Pc [.ref h0, .int v3] (fun U => U.heap.size = sz ∧ va_P (dC, dI) vwCl [(h0, .inr (7, [.ref h1, .ref r0, .int v0, .int v1])), (h1, .inl (g0, 58, .inl f2))] U.heap ∧ va_K (dC, dI) vwCl [(g0, .int)] U ∧ va_D (fun _ => True) [(h0, .inr (7, [.ref h1, .ref r0, .int v0, .int v1])), (h1, .inl (g0, 58, .inl f2))])) (va_Qi (fun (r : Int32) (_ : Unit) => True) (fun (_ : Unit) (t : State) => va_P (dC, dI) vwCl [(h0, .inr (7, [.ref h1, .ref r0, .int v0, .int v1])), (h1, .inl (g0, 58, .inl f2))] t.heap ∧ va_K (dC, dI) vwCl [] t ∧ va_D (va_A [(h0, .inr (7, [.ref h1, .ref r0, .int v0, .int v1])), (h1, .inl (g0, 58, .inl f2))] sz) [(h0, .inr (7, [.ref h1, .ref r0, .int v0, .int v1])), (h1, .inl (g0, 58, .inl f2))]) (va_A [(h0, .inr (7, [.ref h1, .ref r0, .int v0, .int v1])), (h1, .inl (g0, 58, .inl f2))] sz)) 0 0 (va_A [(h0, .inr (7, [.ref h1, .ref r0, .int v0, .int v1])), (h1, .inl (g0, 58, .inl f2))] sz) := by
  refine Met.ofW (cc := cX7_othersWith) (maxL := 5) (ret := (some .int)) (by decide) rfl ?_
  intro p e s m args below meth c s₁ B hml hv
  obtain ⟨rfl, hsz, hP, hK, hD0⟩ := hv
  have hx := B.exec
  have hb := B.bytes
  have hr := B.returns
  have hts := atoms_spec (ws := q_X7_othersWith) B.pre
  have hown : s.vm.findClass RX7 = some m.cls := findClass_of_methodNamed B.named
  have hlocks := B.notSynchronized
  subst hsz
  have hD := hD0.self (sz := s.heap.size)
  generalize hAe : va_A [(h0, .inr (7, [.ref h1, .ref r0, .int v0, .int v1])), (h1, .inl (g0, 58, .inl f2))] s.heap.size = A at hD ⊢
  have hA : ∀ q : Nat, s.heap.size ≤ q → A q := fun q h => by rw [← hAe]; exact Or.inr h
  have hS : va_S A s.heap s.heap [] := va_S.rf
  generalize hQ : (MQ below _ _ s 0 0 A) = Q
  have hl := lv_entry ([.ref h0, .int v3]) (n := 5) (Nat.le_of_ble_eq_true rfl)
  rw [lg_entry_eq]
  generalize (lg_sl ([.ref h0, .int v3]) ++ List.replicate (5 - (lg_sl ([.ref h0, .int v3])).length) Slot.unset).toArray = ls at hl ⊢
  have hl : lv_has ls 5 [(0, .ref h0), (1, .int v3)] := hl
  obtain ⟨H, hH⟩ : ∃ H : Heap, H = s.heap := ⟨_, rfl⟩
  obtain ⟨locs, hlocs⟩ : ∃ y : List Loc, y = [] := ⟨_, rfl⟩
  have hS : va_S A s.heap H locs := by rw [hH, hlocs]; exact va_S.rf
  have hP : va_P (dC, dI) vwCl [(h0, .inr (7, [.ref h1, .ref r0, .int v0, .int v1])), (h1, .inl (g0, 58, .inl f2))] H := by rw [hH]; exact hP
  rw [← hH, ← hlocs]
  refine lv_aload_n hx hb dX7_othersWith_0 rfl (lv_at hl 0 rfl) ?_
  refine lv_iload_n hx hb dX7_othersWith_1 rfl (lv_at hl 1 rfl) ?_
  refine lv_iconst (v := 3) hx hb dX7_othersWith_2 (by decide) ?_
  have hPc := hP.sub (ws' := [(h0, .inr (7, [.ref h1, .ref r0, .int v0, .int v1])), (h1, .inl (g0, 58, .inl f2))]) [0, 1] rfl
  have hDc := hD.sub (ws' := [(h0, .inr (7, [.ref h1, .ref r0, .int v0, .int v1])), (h1, .inl (g0, 58, .inl f2))]) [0, 1] (by decide) rfl
  have hKc := hK.sub (tys' := [(g0, .int)]) [0] rfl
  have hFc := va_free (wc := [(h0, .inr (7, [.ref h1, .ref r0, .int v0, .int v1])), (h1, .inl (g0, 58, .inl f2))]) hD hS hA [0, 1] rfl
  refine va_calli (va_runV (As := [.int v3, .int 3]) (rest := []) ⟨hx, hb, hml, hown, hts⟩ (k_X7_of l dC dI h0 h1 r0 v0 v1 g0 f2 v3 3  H.size) (cwV 2 hts g_X7_othersWith_0 rfl rfl rfl (by decide +kernel) ⟨Nat.le_of_ble_eq_true rfl, Nat.le_of_ble_eq_true rfl⟩) ⟨fun a U g mk q => by obtain ⟨q0, q1, qP, qK, qD⟩ := q; exact ⟨q0, q1, qP, va_K.moved (u := U) (U := U.calling g mk a) (Vm.Alike.refl U.vm) qK, qD⟩, va_recv hKc hPc (ci := 7) (q0 := 0) rfl rfl, fun U hU hW => ⟨rfl, by rw [hU], by rw [hU]; exact hPc, va_K.moved hW.alike hKc, hDc.weaken (fun _ _ _ _ => trivial)⟩⟩ rfl rfl hl.1 rfl (lv_room (Nat.le_of_ble_eq_true rfl)) dX7_othersWith_3 ⟨Nat.le_of_ble_eq_true rfl, Nat.le_of_ble_eq_true rfl⟩) hS (fun q _ h => hFc q h) hFc (fun ra1 u t H1 locs ht hvm hwra1 hB hz1 hk1 hS => ?_)
  obtain ⟨hP1, hK1, hD1⟩ := hB
  rw [ht] at hP1
  obtain ⟨hP, hD⟩ := va_join (wr := []) (w1 := [(h0, .inr (7, [.ref h1, .ref r0, .int v0, .int v1])), (h1, .inl (g0, 58, .inl f2))]) hP hD [0, 1] [] rfl rfl (by decide) (by decide) hk1 hFc hP1 hD1
  generalize H1 = H at hP hS ⊢
  have hP : va_P (dC, dI) vwCl [(h0, .inr (7, [.ref h1, .ref r0, .int v0, .int v1])), (h1, .inl (g0, 58, .inl f2))] H := hP
  have hD : va_D A [(h0, .inr (7, [.ref h1, .ref r0, .int v0, .int v1])), (h1, .inl (g0, 58, .inl f2))] := hD
  refine lv_istore_n (lv' := [(2, .int ra1), (0, .ref h0), (1, .int v3)]) hx hb dX7_othersWith_6 rfl hl (by decide) rfl (fun ls hl => ?_)
  refine lv_iconst (v := 0) hx hb dX7_othersWith_7 (by decide) ?_
  refine lv_istore_n (lv' := [(3, .int 0), (2, .int ra1), (0, .ref h0), (1, .int v3)]) hx hb dX7_othersWith_8 rfl hl (by decide) rfl (fun ls hl => ?_)
  refine lv_iconst (v := 0) hx hb dX7_othersWith_9 (by decide) ?_
  refine lv_istore (lv' := [(4, .int 0), (3, .int 0), (2, .int ra1), (0, .ref h0), (1, .int v3)]) hx hb dX7_othersWith_10 hl (by decide) rfl (fun ls hl => ?_)
  have hL12 : ∀ (n9 : Nat), ∀ (x8 : Int32) (x9 : Int32) (H : Heap) (locs : List Loc) (ls : Array Slot), 0 ≤ x8.toInt → x8.toInt ≤ 8 → (8 - x8.toInt).toNat < n9 → va_P (dC, dI) vwCl [(h0, .inr (7, [.ref h1, .ref r0, .int v0, .int v1])), (h1, .inl (g0, 58, .inl f2))] H → va_D A [(h0, .inr (7, [.ref h1, .ref r0, .int v0, .int v1])), (h1, .inl (g0, 58, .inl f2))] → va_S A s.heap H locs → lv_has ls 5 [(4, .int x8), (3, .int x9), (2, .int ra1), (0, .ref h0), (1, .int v3)] → W p l e ({ frames := 1, cells := 0, slots := 0, locals := 22 }) s m ([.ref h0, .int v3] : List Value).toArray below meth c H locs 0 0 Q (F0 m 12 ls []) := by
    intro n9
    induction n9 with
    | zero => intro x8 x9 H locs ls q0_x8 q1_x8 hm9 hP hD hS hl; exact absurd hm9 (Nat.not_lt_zero _)
    | succ n9 ih =>
      intro x8 x9 H locs ls q0_x8 q1_x8 hm9 hP hD hS hl
      refine lv_iload hx hb dX7_othersWith_12 (lv_at hl 0 rfl) ?_
      refine lv_bipush (v := 8) hx hb dX7_othersWith_14 (by decide) ?_
      refine lv_icmp_ge (tgt := 58) hx hb dX7_othersWith_16 (by decide) (fun c13 => ?_) (fun c13 => ?_)
      · skip
        have fc13 : 8 ≤ x8.toInt := Int32.le_iff_toInt_le.mp c13
        refine lv_iload_n hx hb dX7_othersWith_58 rfl (lv_at hl 1 rfl) ?_
        subst hQ
        have hP9 := hP.sub (ws' := [(h0, .inr (7, [.ref h1, .ref r0, .int v0, .int v1])), (h1, .inl (g0, 58, .inl f2))]) [0, 1] rfl
        have hD9 := hD.sub (ws' := [(h0, .inr (7, [.ref h1, .ref r0, .int v0, .int v1])), (h1, .inl (g0, 58, .inl f2))]) [0, 1] (by decide) rfl
        have hK9 := hK.sub (tys' := []) [] rfl
        exact W.iret (v := x9) hx hb hr (fun t ht hW => ⟨⟨x9, (), rfl, trivial, by rw [ht]; exact hP9, va_K.moved hW.alike hK9, hD9⟩, hS.F ht⟩) hS.2.2 dX7_othersWith_59
      · skip
        have fc13 : ¬ (8 ≤ x8.toInt) := fun h9 => c13 (Int32.le_iff_toInt_le.mpr h9)
        refine lv_aload_n hx hb dX7_othersWith_19 rfl (lv_at hl 3 rfl) ?_
        refine va_get (D := (dC, dI)) (ci := 7) (v := .ref h1) (C := RX7) (T := TX7) (N := 4) hx hb hts (fun _ h => List.mem_cons_of_mem _ (List.mem_append_right _ h)) hown hK hP 0 rfl rfl 0 (by decide) (hts (.fieldLink RX7 11 "LeftArguments$Room" "cells" "[I") (List.mem_cons_of_mem _ (List.mem_append_left _ (List.mem_of_getElem? (i := 1) rfl)))) (fun _ h9 => h9) rfl dX7_othersWith_20 ?_
        refine lv_iload hx hb dX7_othersWith_23 (lv_at hl 0 rfl) ?_
        refine va_iald hx hb hK hP 1 0 rfl rfl (vp_in_iff.mpr ⟨by omega, by omega⟩) dX7_othersWith_25 ?_
        refine lv_topi (fun t14 et14 => ?_)
        have hJ16 : ∀ (x15 : Int32) (H : Heap) (locs : List Loc) (ls : Array Slot), va_P (dC, dI) vwCl [(h0, .inr (7, [.ref h1, .ref r0, .int v0, .int v1])), (h1, .inl (g0, 58, .inl f2))] H → va_D A [(h0, .inr (7, [.ref h1, .ref r0, .int v0, .int v1])), (h1, .inl (g0, 58, .inl f2))] → va_S A s.heap H locs → lv_has ls 5 [(4, .int x8), (3, .int x15), (2, .int ra1), (0, .ref h0), (1, .int v3)] → W p l e ({ frames := 1, cells := 0, slots := 0, locals := 22 }) s m ([.ref h0, .int v3] : List Value).toArray below meth c H locs 0 0 Q (F0 m 52 ls []) := by
          intro x15 H locs ls hP hD hS hl
          obtain ⟨t17, et17⟩ : ∃ y : Int32, y = x8 + 1 := ⟨_, rfl⟩
          have gt17 : t17.toInt = x8.toInt + (1) := pv_add (a := x8.toInt) (b := (1)) et17 rfl (by decide) (by omega) (by omega)
          refine lv_iinc (v := t17) (lv' := [(4, .int t17), (3, .int x15), (2, .int ra1), (0, .ref h0), (1, .int v3)]) hx hb dX7_othersWith_52 hl (k := 0) rfl (by rw [et17]; rfl) (by decide) rfl (fun ls hl => ?_)
          refine lv_goto (tgt := 12) hx hb dX7_othersWith_55 (by decide) ?_
          exact ih t17 x15 H locs ls (by first | omega | decide) (by first | omega | decide) (by first | omega | (simp only [Int.toNat] at *; omega)) hP hD hS (lv_sub hl [0, 1, 2, 3, 4] rfl)
        refine lv_if_le (tgt := 52) hx hb dX7_othersWith_26 (by decide) (fun c18 => ?_) (fun c18 => ?_)
        · skip
          have fc18 : t14.toInt ≤ 0 := Int32.le_iff_toInt_le.mp c18
          exact hJ16 x9 H locs ls hP hD hS (lv_sub hl [0, 1, 2, 3, 4] rfl)
        · skip
          have fc18 : ¬ (t14.toInt ≤ 0) := fun h9 => c18 (Int32.le_iff_toInt_le.mpr h9)
          refine lv_aload_n hx hb dX7_othersWith_29 rfl (lv_at hl 3 rfl) ?_
          refine va_get (D := (dC, dI)) (ci := 7) (v := .ref h1) (C := RX7) (T := TX7) (N := 4) hx hb hts (fun _ h => List.mem_cons_of_mem _ (List.mem_append_right _ h)) hown hK hP 0 rfl rfl 0 (by decide) (hts (.fieldLink RX7 11 "LeftArguments$Room" "cells" "[I") (List.mem_cons_of_mem _ (List.mem_append_left _ (List.mem_of_getElem? (i := 1) rfl)))) (fun _ h9 => h9) rfl dX7_othersWith_30 ?_
          refine lv_bipush (v := 24) hx hb dX7_othersWith_33 (by decide) ?_
          refine lv_iload hx hb dX7_othersWith_35 (lv_at hl 0 rfl) ?_
          refine lv_iadd hx hb dX7_othersWith_37 ?_
          refine lv_topi (fun t19 et19 => ?_)
          have gt19 : t19.toInt = 24 + x8.toInt := pv_add (a := 24) (b := x8.toInt) et19 (by decide) rfl (by omega) (by omega)
          refine va_iald hx hb hK hP 1 0 rfl rfl (vp_in_iff.mpr ⟨by omega, by omega⟩) dX7_othersWith_38 ?_
          refine lv_topi (fun t20 et20 => ?_)
          refine lv_iload_n hx hb dX7_othersWith_39 rfl (lv_at hl 2 rfl) ?_
          refine lv_icmp_ne (tgt := 52) hx hb dX7_othersWith_40 (by decide) (fun c21 => ?_) (fun c21 => ?_)
          · skip
            have fc21 : ¬ (t20.toInt = ra1.toInt) := fun h9 => c21 (Int32.toInt_inj.mp h9)
            exact hJ16 x9 H locs ls hP hD hS (lv_sub hl [0, 1, 2, 3, 4] rfl)
          · skip
            have fc21 : t20.toInt = ra1.toInt := congrArg Int32.toInt c21
            refine lv_iload hx hb dX7_othersWith_43 (lv_at hl 0 rfl) ?_
            refine lv_iload_n hx hb dX7_othersWith_45 rfl (lv_at hl 4 rfl) ?_
            refine lv_icmp_eq (tgt := 52) hx hb dX7_othersWith_46 (by decide) (fun c22 => ?_) (fun c22 => ?_)
            · skip
              have fc22 : x8.toInt = v3.toInt := congrArg Int32.toInt c22
              exact hJ16 x9 H locs ls hP hD hS (lv_sub hl [0, 1, 2, 3, 4] rfl)
            · skip
              have fc22 : ¬ (x8.toInt = v3.toInt) := fun h9 => c22 (Int32.toInt_inj.mp h9)
              obtain ⟨t23, et23⟩ : ∃ y : Int32, y = x9 + 1 := ⟨_, rfl⟩
              refine lv_iinc (v := t23) (lv' := [(3, .int t23), (4, .int x8), (2, .int ra1), (0, .ref h0), (1, .int v3)]) hx hb dX7_othersWith_49 hl (k := 1) rfl (by rw [et23]; rfl) (by decide) rfl (fun ls hl => ?_)
              exact hJ16 t23 H locs ls hP hD hS (lv_sub hl [1, 0, 2, 3, 4] rfl)
  exact hL12 _ 0 0 H locs ls (by first | omega | decide) (by first | omega | decide) (Nat.lt_succ_self _) hP hD hS (lv_sub hl [0, 1, 2, 3, 4] rfl)
def q_X7_allSizes : List Cond := .code yX7_allSizes cX7_allSizes 3 (some .int) :: (([.code yX7_of cX7_of 3 (some .int), .fieldLink RX7 11 "LeftArguments$Room" "cells" "[I", .initialized RX7, .instanceMethod yX7_of, .selects RX7 yX7_of yX7_of, .methodLink RX7 74 yX7_of] : List Cond) ++ wsX70)
set_option maxRecDepth 20000 in
theorem g_X7_allSizes_0 : GoodIn q_X7_allSizes (wsV RX7 74 RX7 yX7_of q_X7_of) := goodIn_app (goodIn_r _ [6, 4, 5, 3] (by decide +kernel) (by decide +kernel)) (goodIn_ca (goodIn_r (.code yX7_of cX7_of 3 (some .int) :: [.fieldLink RX7 11 "LeftArguments$Room" "cells" "[I"]) [1, 2] (by decide +kernel) (by decide +kernel)) (goodIn_sub (fun _ h => List.mem_cons_of_mem _ (List.mem_append_right _ h)) gwX7))
set_option maxHeartbeats 4000000 in
set_option maxRecDepth 100000 in
theorem k_X7_allSizes (l : Launch) (dC : Nat → ClassId) (dI : Nat → Nat → Nat) (h0 : Nat) (h1 : Nat) (r0 : Nat) (v0 : Int32) (v1 : Int32) (g0 : ClassId) (f2 : Nat → Int32) (sz : Nat) : Met l yX7_allSizes q_X7_allSizes ({ frames := 1, cells := 0, slots := 0, locals := 22 }) (va_Pc [.ref h0] (fun U => U.heap.size = sz ∧ va_P (dC, dI) vwCl [(h0, .inr (7, [.ref h1, .ref r0, .int v0, .int v1])), (h1, .inl (g0, 58, .inl f2))] U.heap ∧ va_K (dC, dI) vwCl [(g0, .int)] U ∧ va_D (fun _ => True) [(h0, .inr (7, [.ref h1, .ref r0, .int v0, .int v1])), (h1, .inl (g0, 58, .inl f2))])) (va_Qi (fun (r : Int32) (_ : Unit) => True) (fun (_ : Unit) (t : State) => va_P (dC, dI) vwCl [(h0, .inr (7, [.ref h1, .ref r0, .int v0, .int v1])), (h1, .inl (g0, 58, .inl f2))] t.heap ∧ va_K (dC, dI) vwCl [] t ∧ va_D (va_A [(h0, .inr (7, [.ref h1, .ref r0, .int v0, .int v1])), (h1, .inl (g0, 58, .inl f2))] sz) [(h0, .inr (7, [.ref h1, .ref r0, .int v0, .int v1])), (h1, .inl (g0, 58, .inl f2))]) (va_A [(h0, .inr (7, [.ref h1, .ref r0, .int v0, .int v1])), (h1, .inl (g0, 58, .inl f2))] sz)) 0 0 (va_A [(h0, .inr (7, [.ref h1, .ref r0, .int v0, .int v1])), (h1, .inl (g0, 58, .inl f2))] sz) := by
  refine Met.ofW (cc := cX7_allSizes) (maxL := 3) (ret := (some .int)) (by decide) rfl ?_
  intro p e s m args below meth c s₁ B hml hv
  obtain ⟨rfl, hsz, hP, hK, hD0⟩ := hv
  have hx := B.exec
  have hb := B.bytes
  have hr := B.returns
  have hts := atoms_spec (ws := q_X7_allSizes) B.pre
  have hown : s.vm.findClass RX7 = some m.cls := findClass_of_methodNamed B.named
  have hlocks := B.notSynchronized
  subst hsz
  have hD := hD0.self (sz := s.heap.size)
  generalize hAe : va_A [(h0, .inr (7, [.ref h1, .ref r0, .int v0, .int v1])), (h1, .inl (g0, 58, .inl f2))] s.heap.size = A at hD ⊢
  have hA : ∀ q : Nat, s.heap.size ≤ q → A q := fun q h => by rw [← hAe]; exact Or.inr h
  have hS : va_S A s.heap s.heap [] := va_S.rf
  generalize hQ : (MQ below _ _ s 0 0 A) = Q
  have hl := lv_entry ([.ref h0]) (n := 3) (Nat.le_of_ble_eq_true rfl)
  rw [lg_entry_eq]
  generalize (lg_sl ([.ref h0]) ++ List.replicate (3 - (lg_sl ([.ref h0])).length) Slot.unset).toArray = ls at hl ⊢
  have hl : lv_has ls 3 [(0, .ref h0)] := hl
  obtain ⟨H, hH⟩ : ∃ H : Heap, H = s.heap := ⟨_, rfl⟩
  obtain ⟨locs, hlocs⟩ : ∃ y : List Loc, y = [] := ⟨_, rfl⟩
  have hS : va_S A s.heap H locs := by rw [hH, hlocs]; exact va_S.rf
  have hP : va_P (dC, dI) vwCl [(h0, .inr (7, [.ref h1, .ref r0, .int v0, .int v1])), (h1, .inl (g0, 58, .inl f2))] H := by rw [hH]; exact hP
  rw [← hH, ← hlocs]
  refine lv_iconst (v := 0) hx hb dX7_allSizes_0 (by decide) ?_
  refine lv_istore_n (lv' := [(1, .int 0), (0, .ref h0)]) hx hb dX7_allSizes_1 rfl hl (by decide) rfl (fun ls hl => ?_)
  refine lv_iconst (v := 0) hx hb dX7_allSizes_2 (by decide) ?_
  refine lv_istore_n (lv' := [(2, .int 0), (1, .int 0), (0, .ref h0)]) hx hb dX7_allSizes_3 rfl hl (by decide) rfl (fun ls hl => ?_)
  have hL9 : ∀ (n9 : Nat), ∀ (x5 : Int32) (x6 : Int32) (H : Heap) (locs : List Loc) (ls : Array Slot), 0 ≤ x5.toInt → x5.toInt ≤ 8 → (8 - x5.toInt).toNat < n9 → va_P (dC, dI) vwCl [(h0, .inr (7, [.ref h1, .ref r0, .int v0, .int v1])), (h1, .inl (g0, 58, .inl f2))] H → va_D A [(h0, .inr (7, [.ref h1, .ref r0, .int v0, .int v1])), (h1, .inl (g0, 58, .inl f2))] → va_S A s.heap H locs → lv_has ls 3 [(2, .int x5), (1, .int x6), (0, .ref h0)] → W p l e ({ frames := 1, cells := 0, slots := 0, locals := 22 }) s m ([.ref h0] : List Value).toArray below meth c H locs 0 0 Q (F0 m 4 ls []) := by
    intro n9
    induction n9 with
    | zero => intro x5 x6 H locs ls q0_x5 q1_x5 hm9 hP hD hS hl; exact absurd hm9 (Nat.not_lt_zero _)
    | succ n9 ih =>
      intro x5 x6 H locs ls q0_x5 q1_x5 hm9 hP hD hS hl
      refine lv_iload_n hx hb dX7_allSizes_4 rfl (lv_at hl 0 rfl) ?_
      refine lv_bipush (v := 8) hx hb dX7_allSizes_5 (by decide) ?_
      refine lv_icmp_ge (tgt := 25) hx hb dX7_allSizes_7 (by decide) (fun c10 => ?_) (fun c10 => ?_)
      · skip
        have fc10 : 8 ≤ x5.toInt := Int32.le_iff_toInt_le.mp c10
        refine lv_iload_n hx hb dX7_allSizes_25 rfl (lv_at hl 1 rfl) ?_
        subst hQ
        have hP9 := hP.sub (ws' := [(h0, .inr (7, [.ref h1, .ref r0, .int v0, .int v1])), (h1, .inl (g0, 58, .inl f2))]) [0, 1] rfl
        have hD9 := hD.sub (ws' := [(h0, .inr (7, [.ref h1, .ref r0, .int v0, .int v1])), (h1, .inl (g0, 58, .inl f2))]) [0, 1] (by decide) rfl
        have hK9 := hK.sub (tys' := []) [] rfl
        exact W.iret (v := x6) hx hb hr (fun t ht hW => ⟨⟨x6, (), rfl, trivial, by rw [ht]; exact hP9, va_K.moved hW.alike hK9, hD9⟩, hS.F ht⟩) hS.2.2 dX7_allSizes_26
      · skip
        have fc10 : ¬ (8 ≤ x5.toInt) := fun h9 => c10 (Int32.le_iff_toInt_le.mpr h9)
        refine lv_iload_n hx hb dX7_allSizes_10 rfl (lv_at hl 1 rfl) ?_
        refine lv_aload_n hx hb dX7_allSizes_11 rfl (lv_at hl 2 rfl) ?_
        refine lv_iload_n hx hb dX7_allSizes_12 rfl (lv_at hl 0 rfl) ?_
        refine lv_iconst (v := 0) hx hb dX7_allSizes_13 (by decide) ?_
        have hPc := hP.sub (ws' := [(h0, .inr (7, [.ref h1, .ref r0, .int v0, .int v1])), (h1, .inl (g0, 58, .inl f2))]) [0, 1] rfl
        have hDc := hD.sub (ws' := [(h0, .inr (7, [.ref h1, .ref r0, .int v0, .int v1])), (h1, .inl (g0, 58, .inl f2))]) [0, 1] (by decide) rfl
        have hKc := hK.sub (tys' := [(g0, .int)]) [0] rfl
        have hFc := va_free (wc := [(h0, .inr (7, [.ref h1, .ref r0, .int v0, .int v1])), (h1, .inl (g0, 58, .inl f2))]) hD hS hA [0, 1] rfl
        refine va_calli (va_runV (As := [.int x5, .int 0]) (rest := [.int x6]) ⟨hx, hb, hml, hown, hts⟩ (k_X7_of l dC dI h0 h1 r0 v0 v1 g0 f2 x5 0  H.size) (cwV 2 hts g_X7_allSizes_0 rfl rfl rfl (by decide +kernel) ⟨Nat.le_of_ble_eq_true rfl, Nat.le_of_ble_eq_true rfl⟩) ⟨fun a U g mk q => by obtain ⟨q0, q1, qP, qK, qD⟩ := q; exact ⟨q0, q1, qP, va_K.moved (u := U) (U := U.calling g mk a) (Vm.Alike.refl U.vm) qK, qD⟩, va_recv hKc hPc (ci := 7) (q0 := 0) rfl rfl, fun U hU hW => ⟨rfl, by rw [hU], by rw [hU]; exact hPc, va_K.moved hW.alike hKc, hDc.weaken (fun _ _ _ _ => trivial)⟩⟩ rfl rfl hl.1 rfl (lv_room (Nat.le_of_ble_eq_true rfl)) dX7_allSizes_14 ⟨Nat.le_of_ble_eq_true rfl, Nat.le_of_ble_eq_true rfl⟩) hS (fun q _ h => hFc q h) hFc (fun ra11 u t H1 locs ht hvm hwra11 hB hz1 hk1 hS => ?_)
        obtain ⟨hP1, hK1, hD1⟩ := hB
        rw [ht] at hP1
        obtain ⟨hP, hD⟩ := va_join (wr := []) (w1 := [(h0, .inr (7, [.ref h1, .ref r0, .int v0, .int v1])), (h1, .inl (g0, 58, .inl f2))]) hP hD [0, 1] [] rfl rfl (by decide) (by decide) hk1 hFc hP1 hD1
        generalize H1 = H at hP hS ⊢
        have hP : va_P (dC, dI) vwCl [(h0, .inr (7, [.ref h1, .ref r0, .int v0, .int v1])), (h1, .inl (g0, 58, .inl f2))] H := hP
        have hD : va_D A [(h0, .inr (7, [.ref h1, .ref r0, .int v0, .int v1])), (h1, .inl (g0, 58, .inl f2))] := hD
        refine lv_iadd hx hb dX7_allSizes_17 ?_
        refine lv_topi (fun t12 et12 => ?_)
        refine lv_istore_n (lv' := [(1, .int t12), (2, .int x5), (0, .ref h0)]) hx hb dX7_allSizes_18 rfl hl (by decide) rfl (fun ls hl => ?_)
        obtain ⟨t13, et13⟩ : ∃ y : Int32, y = x5 + 1 := ⟨_, rfl⟩
        have gt13 : t13.toInt = x5.toInt + (1) := pv_add (a := x5.toInt) (b := (1)) et13 rfl (by decide) (by omega) (by omega)
        refine lv_iinc (v := t13) (lv' := [(2, .int t13), (1, .int t12), (0, .ref h0)]) hx hb dX7_allSizes_19 hl (k := 1) rfl (by rw [et13]; rfl) (by decide) rfl (fun ls hl => ?_)
        refine lv_goto (tgt := 4) hx hb dX7_allSizes_22 (by decide) ?_
        exact ih t13 t12 H locs ls (by first | omega | decide) (by first | omega | decide) (by first | omega | (simp only [Int.toNat] at *; omega)) hP hD hS (lv_sub hl [0, 1, 2] rfl)
  exact hL9 _ 0 0 H locs ls (by first | omega | decide) (by first | omega | decide) (Nat.lt_succ_self _) hP hD hS (lv_sub hl [0, 1, 2] rfl)
def q_X7_bagsWith : List Cond := .code yX7_bagsWith cX7_bagsWith 5 (some .int) :: (([.code yX7_has cX7_has 2 (some .boolean), .fieldLink RX7 11 "LeftArguments$Room" "cells" "[I", .initialized RX7, .instanceMethod yX7_has, .selects RX7 yX7_has yX7_has, .methodLink RX7 70 yX7_has, .code yX7_of cX7_of 3 (some .int), .instanceMethod yX7_of, .selects RX7 yX7_of yX7_of, .methodLink RX7 74 yX7_of] : List Cond) ++ wsX70)
set_option maxRecDepth 20000 in
theorem g_X7_bagsWith_0 : GoodIn q_X7_bagsWith (wsV RX7 70 RX7 yX7_has q_X7_has) := goodIn_app (goodIn_r _ [6, 4, 5, 3] (by decide +kernel) (by decide +kernel)) (goodIn_ca (goodIn_r (.code yX7_has cX7_has 2 (some .boolean) :: [.fieldLink RX7 11 "LeftArguments$Room" "cells" "[I"]) [1, 2] (by decide +kernel) (by decide +kernel)) (goodIn_sub (fun _ h => List.mem_cons_of_mem _ (List.mem_append_right _ h)) gwX7))
set_option maxRecDepth 20000 in
theorem g_X7_bagsWith_1 : GoodIn q_X7_bagsWith (wsV RX7 74 RX7 yX7_of q_X7_of) := goodIn_app (goodIn_r _ [10, 8, 9, 3] (by decide +kernel) (by decide +kernel)) (goodIn_ca (goodIn_r (.code yX7_of cX7_of 3 (some .int) :: [.fieldLink RX7 11 "LeftArguments$Room" "cells" "[I"]) [7, 2] (by decide +kernel) (by decide +kernel)) (goodIn_sub (fun _ h => List.mem_cons_of_mem _ (List.mem_append_right _ h)) gwX7))
set_option maxHeartbeats 4000000 in
set_option maxRecDepth 100000 in
theorem k_X7_bagsWith (l : Launch) (dC : Nat → ClassId) (dI : Nat → Nat → Nat) (h0 : Nat) (h1 : Nat) (r0 : Nat) (v0 : Int32) (v1 : Int32) (g0 : ClassId) (f2 : Nat → Int32) (v3 : Int32) (v4 : Int32) (sz : Nat) : Met l yX7_bagsWith q_X7_bagsWith ({ frames := 1, cells := 0, slots := 0, locals := 22 }) (va_Pc [.ref h0, .int v3, .int v4] (fun U => U.heap.size = sz ∧ va_P (dC, dI) vwCl [(h0, .inr (7, [.ref h1, .ref r0, .int v0, .int v1])), (h1, .inl (g0, 58, .inl f2))] U.heap ∧ va_K (dC, dI) vwCl [(g0, .int)] U ∧ va_D (fun _ => True) [(h0, .inr (7, [.ref h1, .ref r0, .int v0, .int v1])), (h1, .inl (g0, 58, .inl f2))])) (va_Qi (fun (r : Int32) (_ : Unit) => True) (fun (_ : Unit) (t : State) => va_P (dC, dI) vwCl [(h0, .inr (7, [.ref h1, .ref r0, .int v0, .int v1])), (h1, .inl (g0, 58, .inl f2))] t.heap ∧ va_K (dC, dI) vwCl [] t ∧ va_D (va_A [(h0, .inr (7, [.ref h1, .ref r0, .int v0, .int v1])), (h1, .inl (g0, 58, .inl f2))] sz) [(h0, .inr (7, [.ref h1, .ref r0, .int v0, .int v1])), (h1, .inl (g0, 58, .inl f2))]) (va_A [(h0, .inr (7, [.ref h1, .ref r0, .int v0, .int v1])), (h1, .inl (g0, 58, .inl f2))] sz)) 0 0 (va_A [(h0, .inr (7, [.ref h1, .ref r0, .int v0, .int v1])), (h1, .inl (g0, 58, .inl f2))] sz) := by
  refine Met.ofW (cc := cX7_bagsWith) (maxL := 5) (ret := (some .int)) (by decide) rfl ?_
  intro p e s m args below meth c s₁ B hml hv
  obtain ⟨rfl, hsz, hP, hK, hD0⟩ := hv
  have hx := B.exec
  have hb := B.bytes
  have hr := B.returns
  have hts := atoms_spec (ws := q_X7_bagsWith) B.pre
  have hown : s.vm.findClass RX7 = some m.cls := findClass_of_methodNamed B.named
  have hlocks := B.notSynchronized
  subst hsz
  have hD := hD0.self (sz := s.heap.size)
  generalize hAe : va_A [(h0, .inr (7, [.ref h1, .ref r0, .int v0, .int v1])), (h1, .inl (g0, 58, .inl f2))] s.heap.size = A at hD ⊢
  have hA : ∀ q : Nat, s.heap.size ≤ q → A q := fun q h => by rw [← hAe]; exact Or.inr h
  have hS : va_S A s.heap s.heap [] := va_S.rf
  generalize hQ : (MQ below _ _ s 0 0 A) = Q
  have hl := lv_entry ([.ref h0, .int v3, .int v4]) (n := 5) (Nat.le_of_ble_eq_true rfl)
  rw [lg_entry_eq]
  generalize (lg_sl ([.ref h0, .int v3, .int v4]) ++ List.replicate (5 - (lg_sl ([.ref h0, .int v3, .int v4])).length) Slot.unset).toArray = ls at hl ⊢
  have hl : lv_has ls 5 [(0, .ref h0), (1, .int v3), (2, .int v4)] := hl
  obtain ⟨H, hH⟩ : ∃ H : Heap, H = s.heap := ⟨_, rfl⟩
  obtain ⟨locs, hlocs⟩ : ∃ y : List Loc, y = [] := ⟨_, rfl⟩
  have hS : va_S A s.heap H locs := by rw [hH, hlocs]; exact va_S.rf
  have hP : va_P (dC, dI) vwCl [(h0, .inr (7, [.ref h1, .ref r0, .int v0, .int v1])), (h1, .inl (g0, 58, .inl f2))] H := by rw [hH]; exact hP
  rw [← hH, ← hlocs]
  refine lv_iconst (v := 0) hx hb dX7_bagsWith_0 (by decide) ?_
  refine lv_istore_n (lv' := [(3, .int 0), (0, .ref h0), (1, .int v3), (2, .int v4)]) hx hb dX7_bagsWith_1 rfl hl (by decide) rfl (fun ls hl => ?_)
  refine lv_iconst (v := 0) hx hb dX7_bagsWith_2 (by decide) ?_
  refine lv_istore (lv' := [(4, .int 0), (3, .int 0), (0, .ref h0), (1, .int v3), (2, .int v4)]) hx hb dX7_bagsWith_3 hl (by decide) rfl (fun ls hl => ?_)
  have hL9 : ∀ (n9 : Nat), ∀ (x5 : Int32) (x6 : Int32) (H : Heap) (locs : List Loc) (ls : Array Slot), 0 ≤ x5.toInt → x5.toInt ≤ 8 → (8 - x5.toInt).toNat < n9 → va_P (dC, dI) vwCl [(h0, .inr (7, [.ref h1, .ref r0, .int v0, .int v1])), (h1, .inl (g0, 58, .inl f2))] H → va_D A [(h0, .inr (7, [.ref h1, .ref r0, .int v0, .int v1])), (h1, .inl (g0, 58, .inl f2))] → va_S A s.heap H locs → lv_has ls 5 [(4, .int x5), (3, .int x6), (0, .ref h0), (1, .int v3), (2, .int v4)] → W p l e ({ frames := 1, cells := 0, slots := 0, locals := 22 }) s m ([.ref h0, .int v3, .int v4] : List Value).toArray below meth c H locs 0 0 Q (F0 m 5 ls []) := by
    intro n9
    induction n9 with
    | zero => intro x5 x6 H locs ls q0_x5 q1_x5 hm9 hP hD hS hl; exact absurd hm9 (Nat.not_lt_zero _)
    | succ n9 ih =>
      intro x5 x6 H locs ls q0_x5 q1_x5 hm9 hP hD hS hl
      refine lv_iload hx hb dX7_bagsWith_5 (lv_at hl 0 rfl) ?_
      refine lv_bipush (v := 8) hx hb dX7_bagsWith_7 (by decide) ?_
      refine lv_icmp_ge (tgt := 45) hx hb dX7_bagsWith_9 (by decide) (fun c10 => ?_) (fun c10 => ?_)
      · skip
        have fc10 : 8 ≤ x5.toInt := Int32.le_iff_toInt_le.mp c10
        refine lv_iload_n hx hb dX7_bagsWith_45 rfl (lv_at hl 1 rfl) ?_
        subst hQ
        have hP9 := hP.sub (ws' := [(h0, .inr (7, [.ref h1, .ref r0, .int v0, .int v1])), (h1, .inl (g0, 58, .inl f2))]) [0, 1] rfl
        have hD9 := hD.sub (ws' := [(h0, .inr (7, [.ref h1, .ref r0, .int v0, .int v1])), (h1, .inl (g0, 58, .inl f2))]) [0, 1] (by decide) rfl
        have hK9 := hK.sub (tys' := []) [] rfl
        exact W.iret (v := x6) hx hb hr (fun t ht hW => ⟨⟨x6, (), rfl, trivial, by rw [ht]; exact hP9, va_K.moved hW.alike hK9, hD9⟩, hS.F ht⟩) hS.2.2 dX7_bagsWith_46
      · skip
        have fc10 : ¬ (8 ≤ x5.toInt) := fun h9 => c10 (Int32.le_iff_toInt_le.mpr h9)
        refine lv_aload_n hx hb dX7_bagsWith_12 rfl (lv_at hl 2 rfl) ?_
        refine lv_iload hx hb dX7_bagsWith_13 (lv_at hl 0 rfl) ?_
        have hPc := hP.sub (ws' := [(h0, .inr (7, [.ref h1, .ref r0, .int v0, .int v1])), (h1, .inl (g0, 58, .inl f2))]) [0, 1] rfl
        have hDc := hD.sub (ws' := [(h0, .inr (7, [.ref h1, .ref r0, .int v0, .int v1])), (h1, .inl (g0, 58, .inl f2))]) [0, 1] (by decide) rfl
        have hKc := hK.sub (tys' := [(g0, .int)]) [0] rfl
        have hFc := va_free (wc := [(h0, .inr (7, [.ref h1, .ref r0, .int v0, .int v1])), (h1, .inl (g0, 58, .inl f2))]) hD hS hA [0, 1] rfl
        refine va_calli (va_runV (As := [.int x5]) (rest := []) ⟨hx, hb, hml, hown, hts⟩ (k_X7_has l dC dI h0 h1 r0 v0 v1 g0 f2 x5  H.size) (cwV 1 hts g_X7_bagsWith_0 rfl rfl rfl (by decide +kernel) ⟨Nat.le_of_ble_eq_true rfl, Nat.le_of_ble_eq_true rfl⟩) ⟨fun a U g mk q => by obtain ⟨q0, q1, qP, qK, qD⟩ := q; exact ⟨q0, q1, qP, va_K.moved (u := U) (U := U.calling g mk a) (Vm.Alike.refl U.vm) qK, qD⟩, va_recv hKc hPc (ci := 7) (q0 := 0) rfl rfl, fun U hU hW => ⟨rfl, by rw [hU], by rw [hU]; exact hPc, va_K.moved hW.alike hKc, hDc.weaken (fun _ _ _ _ => trivial)⟩⟩ rfl rfl hl.1 rfl (lv_room (Nat.le_of_ble_eq_true rfl)) dX7_bagsWith_15 ⟨Nat.le_of_ble_eq_true rfl, Nat.le_of_ble_eq_true rfl⟩) hS (fun q _ h => hFc q h) hFc (fun ra11 u t H1 locs ht hvm hwra11 hB hz1 hk1 hS => ?_)
        obtain ⟨hP1, hK1, hD1⟩ := hB
        rw [ht] at hP1
        obtain ⟨hP, hD⟩ := va_join (wr := []) (w1 := [(h0, .inr (7, [.ref h1, .ref r0, .int v0, .int v1])), (h1, .inl (g0, 58, .inl f2))]) hP hD [0, 1] [] rfl rfl (by decide) (by decide) hk1 hFc hP1 hD1
        generalize H1 = H at hP hS ⊢
        have hP : va_P (dC, dI) vwCl [(h0, .inr (7, [.ref h1, .ref r0, .int v0, .int v1])), (h1, .inl (g0, 58, .inl f2))] H := hP
        have hD : va_D A [(h0, .inr (7, [.ref h1, .ref r0, .int v0, .int v1])), (h1, .inl (g0, 58, .inl f2))] := hD
        obtain ⟨wa_ra11, wb_ra11⟩ := hwra11
        have wa_ra11 : 0 ≤ ra11.toInt := wa_ra11
        have wb_ra11 : ra11.toInt ≤ 1 := wb_ra11
        have hJ13 : ∀ (x12 : Int32) (H : Heap) (locs : List Loc) (ls : Array Slot), va_P (dC, dI) vwCl [(h0, .inr (7, [.ref h1, .ref r0, .int v0, .int v1])), (h1, .inl (g0, 58, .inl f2))] H → va_D A [(h0, .inr (7, [.ref h1, .ref r0, .int v0, .int v1])), (h1, .inl (g0, 58, .inl f2))] → va_S A s.heap H locs → lv_has ls 5 [(4, .int x5), (3, .int x12), (0, .ref h0), (1, .int v3), (2, .int v4)] → W p l e ({ frames := 1, cells := 0, slots := 0, locals := 22 }) s m ([.ref h0, .int v3, .int v4] : List Value).toArray below meth c H locs 0 0 Q (F0 m 39 ls []) := by
          intro x12 H locs ls hP hD hS hl
          obtain ⟨t14, et14⟩ : ∃ y : Int32, y = x5 + 1 := ⟨_, rfl⟩
          have gt14 : t14.toInt = x5.toInt + (1) := pv_add (a := x5.toInt) (b := (1)) et14 rfl (by decide) (by omega) (by omega)
          refine lv_iinc (v := t14) (lv' := [(4, .int t14), (3, .int x12), (0, .ref h0), (1, .int v3), (2, .int v4)]) hx hb dX7_bagsWith_39 hl (k := 0) rfl (by rw [et14]; rfl) (by decide) rfl (fun ls hl => ?_)
          refine lv_goto (tgt := 5) hx hb dX7_bagsWith_42 (by decide) ?_
          exact ih t14 x12 H locs ls (by first | omega | decide) (by first | omega | decide) (by first | omega | (simp only [Int.toNat] at *; omega)) hP hD hS (lv_sub hl [0, 1, 2, 3, 4] rfl)
        refine lv_if_eq (tgt := 39) hx hb dX7_bagsWith_18 (by decide) (fun c15 => ?_) (fun c15 => ?_)
        · skip
          have fc15 : ra11.toInt = 0 := congrArg Int32.toInt c15
          exact hJ13 x6 H locs ls hP hD hS (lv_sub hl [0, 1, 2, 3, 4] rfl)
        · skip
          have fc15 : ¬ (ra11.toInt = 0) := fun h9 => c15 (Int32.toInt_inj.mp h9)
          refine lv_aload_n hx hb dX7_bagsWith_21 rfl (lv_at hl 2 rfl) ?_
          refine lv_iload hx hb dX7_bagsWith_22 (lv_at hl 0 rfl) ?_
          refine lv_iload_n hx hb dX7_bagsWith_24 rfl (lv_at hl 3 rfl) ?_
          have hPc := hP.sub (ws' := [(h0, .inr (7, [.ref h1, .ref r0, .int v0, .int v1])), (h1, .inl (g0, 58, .inl f2))]) [0, 1] rfl
          have hDc := hD.sub (ws' := [(h0, .inr (7, [.ref h1, .ref r0, .int v0, .int v1])), (h1, .inl (g0, 58, .inl f2))]) [0, 1] (by decide) rfl
          have hKc := hK.sub (tys' := [(g0, .int)]) [0] rfl
          have hFc := va_free (wc := [(h0, .inr (7, [.ref h1, .ref r0, .int v0, .int v1])), (h1, .inl (g0, 58, .inl f2))]) hD hS hA [0, 1] rfl
          refine va_calli (va_runV (As := [.int x5, .int v3]) (rest := []) ⟨hx, hb, hml, hown, hts⟩ (k_X7_of l dC dI h0 h1 r0 v0 v1 g0 f2 x5 v3  H.size) (cwV 2 hts g_X7_bagsWith_1 rfl rfl rfl (by decide +kernel) ⟨Nat.le_of_ble_eq_true rfl, Nat.le_of_ble_eq_true rfl⟩) ⟨fun a U g mk q => by obtain ⟨q0, q1, qP, qK, qD⟩ := q; exact ⟨q0, q1, qP, va_K.moved (u := U) (U := U.calling g mk a) (Vm.Alike.refl U.vm) qK, qD⟩, va_recv hKc hPc (ci := 7) (q0 := 0) rfl rfl, fun U hU hW => ⟨rfl, by rw [hU], by rw [hU]; exact hPc, va_K.moved hW.alike hKc, hDc.weaken (fun _ _ _ _ => trivial)⟩⟩ rfl rfl hl.1 rfl (lv_room (Nat.le_of_ble_eq_true rfl)) dX7_bagsWith_25 ⟨Nat.le_of_ble_eq_true rfl, Nat.le_of_ble_eq_true rfl⟩) hS (fun q _ h => hFc q h) hFc (fun ra16 u t H1 locs ht hvm hwra16 hB hz1 hk1 hS => ?_)
          obtain ⟨hP1, hK1, hD1⟩ := hB
          rw [ht] at hP1
          obtain ⟨hP, hD⟩ := va_join (wr := []) (w1 := [(h0, .inr (7, [.ref h1, .ref r0, .int v0, .int v1])), (h1, .inl (g0, 58, .inl f2))]) hP hD [0, 1] [] rfl rfl (by decide) (by decide) hk1 hFc hP1 hD1
          generalize H1 = H at hP hS ⊢
          have hP : va_P (dC, dI) vwCl [(h0, .inr (7, [.ref h1, .ref r0, .int v0, .int v1])), (h1, .inl (g0, 58, .inl f2))] H := hP
          have hD : va_D A [(h0, .inr (7, [.ref h1, .ref r0, .int v0, .int v1])), (h1, .inl (g0, 58, .inl f2))] := hD
          refine lv_iload_n hx hb dX7_bagsWith_28 rfl (lv_at hl 4 rfl) ?_
          refine lv_icmp_lt (tgt := 39) hx hb dX7_bagsWith_29 (by decide) (fun c17 => ?_) (fun c17 => ?_)
          · skip
            have fc17 : ra16.toInt < v4.toInt := Int32.lt_iff_toInt_lt.mp c17
            exact hJ13 x6 H locs ls hP hD hS (lv_sub hl [0, 1, 2, 3, 4] rfl)
          · skip
            have fc17 : ¬ (ra16.toInt < v4.toInt) := fun h9 => c17 (Int32.lt_iff_toInt_lt.mpr h9)
            refine lv_iload_n hx hb dX7_bagsWith_32 rfl (lv_at hl 1 rfl) ?_
            refine lv_iconst (v := 1) hx hb dX7_bagsWith_33 (by decide) ?_
            refine lv_iload hx hb dX7_bagsWith_34 (lv_at hl 0 rfl) ?_
            refine lv_ishl hx hb dX7_bagsWith_36 ?_
            refine lv_topi (fun t18 et18 => ?_)
            refine lv_ior hx hb dX7_bagsWith_37 ?_
            refine lv_topi (fun t19 et19 => ?_)
            refine lv_istore_n (lv' := [(3, .int t19), (4, .int x5), (0, .ref h0), (1, .int v3), (2, .int v4)]) hx hb dX7_bagsWith_38 rfl hl (by decide) rfl (fun ls hl => ?_)
            exact hJ13 t19 H locs ls hP hD hS (lv_sub hl [1, 0, 2, 3, 4] rfl)
  exact hL9 _ 0 0 H locs ls (by first | omega | decide) (by first | omega | decide) (Nat.lt_succ_self _) hP hD hS (lv_sub hl [0, 1, 2, 3, 4] rfl)
def q_X7_setOff : List Cond := .code yX7_setOff cX7_setOff 3 (some .boolean) :: (([.code yX7_of cX7_of 3 (some .int), .fieldLink RX7 11 "LeftArguments$Room" "cells" "[I", .initialized RX7, .instanceMethod yX7_of, .selects RX7 yX7_of yX7_of, .methodLink RX7 74 yX7_of, .methodLink RX7 110 Lib.Math.abs.name, .static Lib.Math.abs.name, .initialized "java/lang/Math", .code Lib.Math.abs.name Lib.Math.abs.code 1 (some .int)] : List Cond) ++ wsX70)
set_option maxRecDepth 20000 in
theorem g_X7_setOff_0 : GoodIn q_X7_setOff (wsV RX7 74 RX7 yX7_of q_X7_of) := goodIn_app (goodIn_r _ [6, 4, 5, 3] (by decide +kernel) (by decide +kernel)) (goodIn_ca (goodIn_r (.code yX7_of cX7_of 3 (some .int) :: [.fieldLink RX7 11 "LeftArguments$Room" "cells" "[I"]) [1, 2] (by decide +kernel) (by decide +kernel)) (goodIn_sub (fun _ h => List.mem_cons_of_mem _ (List.mem_append_right _ h)) gwX7))
set_option maxRecDepth 20000 in
theorem g_X7_setOff_1 : GoodIn q_X7_setOff (wsV RX7 74 RX7 yX7_of q_X7_of) := goodIn_app (goodIn_r _ [6, 4, 5, 3] (by decide +kernel) (by decide +kernel)) (goodIn_ca (goodIn_r (.code yX7_of cX7_of 3 (some .int) :: [.fieldLink RX7 11 "LeftArguments$Room" "cells" "[I"]) [1, 2] (by decide +kernel) (by decide +kernel)) (goodIn_sub (fun _ h => List.mem_cons_of_mem _ (List.mem_append_right _ h)) gwX7))
set_option maxRecDepth 20000 in
theorem g_X7_setOff_2 : GoodIn q_X7_setOff (wsV RX7 74 RX7 yX7_of q_X7_of) := goodIn_app (goodIn_r _ [6, 4, 5, 3] (by decide +kernel) (by decide +kernel)) (goodIn_ca (goodIn_r (.code yX7_of cX7_of 3 (some .int) :: [.fieldLink RX7 11 "LeftArguments$Room" "cells" "[I"]) [1, 2] (by decide +kernel) (by decide +kernel)) (goodIn_sub (fun _ h => List.mem_cons_of_mem _ (List.mem_append_right _ h)) gwX7))
set_option maxRecDepth 20000 in
theorem g_X7_setOff_3 : GoodIn q_X7_setOff (wsV RX7 74 RX7 yX7_of q_X7_of) := goodIn_app (goodIn_r _ [6, 4, 5, 3] (by decide +kernel) (by decide +kernel)) (goodIn_ca (goodIn_r (.code yX7_of cX7_of 3 (some .int) :: [.fieldLink RX7 11 "LeftArguments$Room" "cells" "[I"]) [1, 2] (by decide +kernel) (by decide +kernel)) (goodIn_sub (fun _ h => List.mem_cons_of_mem _ (List.mem_append_right _ h)) gwX7))
set_option maxRecDepth 20000 in
theorem g_X7_setOff_4 : GoodIn q_X7_setOff (wsV RX7 74 RX7 yX7_of q_X7_of) := goodIn_app (goodIn_r _ [6, 4, 5, 3] (by decide +kernel) (by decide +kernel)) (goodIn_ca (goodIn_r (.code yX7_of cX7_of 3 (some .int) :: [.fieldLink RX7 11 "LeftArguments$Room" "cells" "[I"]) [1, 2] (by decide +kernel) (by decide +kernel)) (goodIn_sub (fun _ h => List.mem_cons_of_mem _ (List.mem_append_right _ h)) gwX7))
set_option maxRecDepth 20000 in
theorem g_X7_setOff_5 : GoodIn q_X7_setOff (wsV RX7 74 RX7 yX7_of q_X7_of) := goodIn_app (goodIn_r _ [6, 4, 5, 3] (by decide +kernel) (by decide +kernel)) (goodIn_ca (goodIn_r (.code yX7_of cX7_of 3 (some .int) :: [.fieldLink RX7 11 "LeftArguments$Room" "cells" "[I"]) [1, 2] (by decide +kernel) (by decide +kernel)) (goodIn_sub (fun _ h => List.mem_cons_of_mem _ (List.mem_append_right _ h)) gwX7))
set_option maxHeartbeats 4000000 in
set_option maxRecDepth 100000 in
theorem k_X7_setOff (l : Launch) (dC : Nat → ClassId) (dI : Nat → Nat → Nat) (h0 : Nat) (h1 : Nat) (r0 : Nat) (v0 : Int32) (v1 : Int32) (g0 : ClassId) (f2 : Nat → Int32) (v3 : Int32) (v4 : Int32) (sz : Nat) : Met l yX7_setOff q_X7_setOff ({ frames := 1, cells := 0, slots := 0, locals := 22 }) (va_Pc [.ref h0, .int v3, .int v4] (fun U => U.heap.size = sz ∧ va_P (dC, dI) vwCl [(h0, .inr (7, [.ref h1, .ref r0, .int v0, .int v1])), (h1, .inl (g0, 58, .inl f2))] U.heap ∧ va_K (dC, dI) vwCl [(g0, .int)] U ∧ va_D (fun _ => True) [(h0, .inr (7, [.ref h1, .ref r0, .int v0, .int v1])), (h1, .inl (g0, 58, .inl f2))])) (va_Qi (fun (r : Int32) (_ : Unit) => 0 ≤ r.toInt ∧ r.toInt ≤ 1) (fun (_ : Unit) (t : State) => va_P (dC, dI) vwCl [(h0, .inr (7, [.ref h1, .ref r0, .int v0, .int v1])), (h1, .inl (g0, 58, .inl f2))] t.heap ∧ va_K (dC, dI) vwCl [] t ∧ va_D (va_A [(h0, .inr (7, [.ref h1, .ref r0, .int v0, .int v1])), (h1, .inl (g0, 58, .inl f2))] sz) [(h0, .inr (7, [.ref h1, .ref r0, .int v0, .int v1])), (h1, .inl (g0, 58, .inl f2))]) (va_A [(h0, .inr (7, [.ref h1, .ref r0, .int v0, .int v1])), (h1, .inl (g0, 58, .inl f2))] sz)) 0 0 (va_A [(h0, .inr (7, [.ref h1, .ref r0, .int v0, .int v1])), (h1, .inl (g0, 58, .inl f2))] sz) := by
  refine Met.ofW (cc := cX7_setOff) (maxL := 3) (ret := (some .boolean)) (by decide) rfl ?_
  intro p e s m args below meth c s₁ B hml hv
  obtain ⟨rfl, hsz, hP, hK, hD0⟩ := hv
  have hx := B.exec
  have hb := B.bytes
  have hr := B.returns
  have hts := atoms_spec (ws := q_X7_setOff) B.pre
  have hown : s.vm.findClass RX7 = some m.cls := findClass_of_methodNamed B.named
  have hlocks := B.notSynchronized
  subst hsz
  have hD := hD0.self (sz := s.heap.size)
  generalize hAe : va_A [(h0, .inr (7, [.ref h1, .ref r0, .int v0, .int v1])), (h1, .inl (g0, 58, .inl f2))] s.heap.size = A at hD ⊢
  have hA : ∀ q : Nat, s.heap.size ≤ q → A q := fun q h => by rw [← hAe]; exact Or.inr h
  have hS : va_S A s.heap s.heap [] := va_S.rf
  generalize hQ : (MQ below _ _ s 0 0 A) = Q
  have hl := lv_entry ([.ref h0, .int v3, .int v4]) (n := 3) (Nat.le_of_ble_eq_true rfl)
  rw [lg_entry_eq]
  generalize (lg_sl ([.ref h0, .int v3, .int v4]) ++ List.replicate (3 - (lg_sl ([.ref h0, .int v3, .int v4])).length) Slot.unset).toArray = ls at hl ⊢
  have hl : lv_has ls 3 [(0, .ref h0), (1, .int v3), (2, .int v4)] := hl
  obtain ⟨H, hH⟩ : ∃ H : Heap, H = s.heap := ⟨_, rfl⟩
  obtain ⟨locs, hlocs⟩ : ∃ y : List Loc, y = [] := ⟨_, rfl⟩
  have hS : va_S A s.heap H locs := by rw [hH, hlocs]; exact va_S.rf
  have hP : va_P (dC, dI) vwCl [(h0, .inr (7, [.ref h1, .ref r0, .int v0, .int v1])), (h1, .inl (g0, 58, .inl f2))] H := by rw [hH]; exact hP
  rw [← hH, ← hlocs]
  refine lv_aload_n hx hb dX7_setOff_0 rfl (lv_at hl 0 rfl) ?_
  refine lv_iload_n hx hb dX7_setOff_1 rfl (lv_at hl 1 rfl) ?_
  refine lv_iconst (v := 0) hx hb dX7_setOff_2 (by decide) ?_
  have hPc := hP.sub (ws' := [(h0, .inr (7, [.ref h1, .ref r0, .int v0, .int v1])), (h1, .inl (g0, 58, .inl f2))]) [0, 1] rfl
  have hDc := hD.sub (ws' := [(h0, .inr (7, [.ref h1, .ref r0, .int v0, .int v1])), (h1, .inl (g0, 58, .inl f2))]) [0, 1] (by decide) rfl
  have hKc := hK.sub (tys' := [(g0, .int)]) [0] rfl
  have hFc := va_free (wc := [(h0, .inr (7, [.ref h1, .ref r0, .int v0, .int v1])), (h1, .inl (g0, 58, .inl f2))]) hD hS hA [0, 1] rfl
  refine va_calli (va_runV (As := [.int v3, .int 0]) (rest := []) ⟨hx, hb, hml, hown, hts⟩ (k_X7_of l dC dI h0 h1 r0 v0 v1 g0 f2 v3 0  H.size) (cwV 2 hts g_X7_setOff_0 rfl rfl rfl (by decide +kernel) ⟨Nat.le_of_ble_eq_true rfl, Nat.le_of_ble_eq_true rfl⟩) ⟨fun a U g mk q => by obtain ⟨q0, q1, qP, qK, qD⟩ := q; exact ⟨q0, q1, qP, va_K.moved (u := U) (U := U.calling g mk a) (Vm.Alike.refl U.vm) qK, qD⟩, va_recv hKc hPc (ci := 7) (q0 := 0) rfl rfl, fun U hU hW => ⟨rfl, by rw [hU], by rw [hU]; exact hPc, va_K.moved hW.alike hKc, hDc.weaken (fun _ _ _ _ => trivial)⟩⟩ rfl rfl hl.1 rfl (lv_room (Nat.le_of_ble_eq_true rfl)) dX7_setOff_3 ⟨Nat.le_of_ble_eq_true rfl, Nat.le_of_ble_eq_true rfl⟩) hS (fun q _ h => hFc q h) hFc (fun ra1 u t H1 locs ht hvm hwra1 hB hz1 hk1 hS => ?_)
  obtain ⟨hP1, hK1, hD1⟩ := hB
  rw [ht] at hP1
  obtain ⟨hP, hD⟩ := va_join (wr := []) (w1 := [(h0, .inr (7, [.ref h1, .ref r0, .int v0, .int v1])), (h1, .inl (g0, 58, .inl f2))]) hP hD [0, 1] [] rfl rfl (by decide) (by decide) hk1 hFc hP1 hD1
  generalize H1 = H at hP hS ⊢
  have hP : va_P (dC, dI) vwCl [(h0, .inr (7, [.ref h1, .ref r0, .int v0, .int v1])), (h1, .inl (g0, 58, .inl f2))] H := hP
  have hD : va_D A [(h0, .inr (7, [.ref h1, .ref r0, .int v0, .int v1])), (h1, .inl (g0, 58, .inl f2))] := hD
  refine lv_aload_n hx hb dX7_setOff_6 rfl (lv_at hl 0 rfl) ?_
  refine lv_iload_n hx hb dX7_setOff_7 rfl (lv_at hl 2 rfl) ?_
  refine lv_iconst (v := 0) hx hb dX7_setOff_8 (by decide) ?_
  have hPc := hP.sub (ws' := [(h0, .inr (7, [.ref h1, .ref r0, .int v0, .int v1])), (h1, .inl (g0, 58, .inl f2))]) [0, 1] rfl
  have hDc := hD.sub (ws' := [(h0, .inr (7, [.ref h1, .ref r0, .int v0, .int v1])), (h1, .inl (g0, 58, .inl f2))]) [0, 1] (by decide) rfl
  have hKc := hK.sub (tys' := [(g0, .int)]) [0] rfl
  have hFc := va_free (wc := [(h0, .inr (7, [.ref h1, .ref r0, .int v0, .int v1])), (h1, .inl (g0, 58, .inl f2))]) hD hS hA [0, 1] rfl
  refine va_calli (va_runV (As := [.int v4, .int 0]) (rest := [.int ra1]) ⟨hx, hb, hml, hown, hts⟩ (k_X7_of l dC dI h0 h1 r0 v0 v1 g0 f2 v4 0  H.size) (cwV 2 hts g_X7_setOff_1 rfl rfl rfl (by decide +kernel) ⟨Nat.le_of_ble_eq_true rfl, Nat.le_of_ble_eq_true rfl⟩) ⟨fun a U g mk q => by obtain ⟨q0, q1, qP, qK, qD⟩ := q; exact ⟨q0, q1, qP, va_K.moved (u := U) (U := U.calling g mk a) (Vm.Alike.refl U.vm) qK, qD⟩, va_recv hKc hPc (ci := 7) (q0 := 0) rfl rfl, fun U hU hW => ⟨rfl, by rw [hU], by rw [hU]; exact hPc, va_K.moved hW.alike hKc, hDc.weaken (fun _ _ _ _ => trivial)⟩⟩ rfl rfl hl.1 rfl (lv_room (Nat.le_of_ble_eq_true rfl)) dX7_setOff_9 ⟨Nat.le_of_ble_eq_true rfl, Nat.le_of_ble_eq_true rfl⟩) hS (fun q _ h => hFc q h) hFc (fun ra2 u t H1 locs ht hvm hwra2 hB hz1 hk1 hS => ?_)
  obtain ⟨hP1, hK1, hD1⟩ := hB
  rw [ht] at hP1
  obtain ⟨hP, hD⟩ := va_join (wr := []) (w1 := [(h0, .inr (7, [.ref h1, .ref r0, .int v0, .int v1])), (h1, .inl (g0, 58, .inl f2))]) hP hD [0, 1] [] rfl rfl (by decide) (by decide) hk1 hFc hP1 hD1
  generalize H1 = H at hP hS ⊢
  have hP : va_P (dC, dI) vwCl [(h0, .inr (7, [.ref h1, .ref r0, .int v0, .int v1])), (h1, .inl (g0, 58, .inl f2))] H := hP
  have hD : va_D A [(h0, .inr (7, [.ref h1, .ref r0, .int v0, .int v1])), (h1, .inl (g0, 58, .inl f2))] := hD
  refine lv_isub hx hb dX7_setOff_12 ?_
  refine lv_topi (fun t3 et3 => ?_)
  refine va_mabs hx hb (by rw [hml]; exact hl.1.symm) hown (hts (.methodLink RX7 110 Lib.Math.abs.name) (List.mem_cons_of_mem _ (List.mem_append_left _ (List.mem_of_getElem? (i := 6) rfl)))) (hts (.static Lib.Math.abs.name) (List.mem_cons_of_mem _ (List.mem_append_left _ (List.mem_of_getElem? (i := 7) rfl)))) (hts (.initialized "java/lang/Math") (List.mem_cons_of_mem _ (List.mem_append_left _ (List.mem_of_getElem? (i := 8) rfl)))) (hts (.code Lib.Math.abs.name Lib.Math.abs.code 1 (some .int)) (List.mem_cons_of_mem _ (List.mem_append_left _ (List.mem_of_getElem? (i := 9) rfl)))) (Nat.le_of_ble_eq_true rfl) (Nat.le_of_ble_eq_true rfl) (Nat.le_of_ble_eq_true rfl) (Nat.le_of_ble_eq_true rfl) dX7_setOff_13 ?_
  refine lv_topi (fun t4 et4 => ?_)
  refine lv_iconst (v := 2) hx hb dX7_setOff_16 (by decide) ?_
  have hJ6 : ∀ (x5 : Int32) (H : Heap) (locs : List Loc) (ls : Array Slot), 0 ≤ x5.toInt → x5.toInt ≤ 1 → va_P (dC, dI) vwCl [(h0, .inr (7, [.ref h1, .ref r0, .int v0, .int v1])), (h1, .inl (g0, 58, .inl f2))] H → va_D A [(h0, .inr (7, [.ref h1, .ref r0, .int v0, .int v1])), (h1, .inl (g0, 58, .inl f2))] → va_S A s.heap H locs → lv_has ls 3 [(0, .ref h0), (1, .int v3), (2, .int v4)] → W p l e ({ frames := 1, cells := 0, slots := 0, locals := 22 }) s m ([.ref h0, .int v3, .int v4] : List Value).toArray below meth c H locs 0 0 Q (F0 m 54 ls [.int x5]) := by
    intro x5 H locs ls q0_x5 q1_x5 hP hD hS hl
    subst hQ
    have hP9 := hP.sub (ws' := [(h0, .inr (7, [.ref h1, .ref r0, .int v0, .int v1])), (h1, .inl (g0, 58, .inl f2))]) [0, 1] rfl
    have hD9 := hD.sub (ws' := [(h0, .inr (7, [.ref h1, .ref r0, .int v0, .int v1])), (h1, .inl (g0, 58, .inl f2))]) [0, 1] (by decide) rfl
    have hK9 := hK.sub (tys' := []) [] rfl
    exact W.zret (v := x5) hx hb hr (pv_nz (by omega) (by omega)) (fun t ht hW => ⟨⟨x5, (), rfl, ⟨by first | omega | decide, by first | omega | decide⟩, by rw [ht]; exact hP9, va_K.moved hW.alike hK9, hD9⟩, hS.F ht⟩) hS.2.2 dX7_setOff_54
  refine lv_icmp_le (tgt := 49) hx hb dX7_setOff_17 (by decide) (fun c7 => ?_) (fun c7 => ?_)
  · skip
    have fc7 : t4.toInt ≤ 2 := Int32.le_iff_toInt_le.mp c7
    refine lv_iconst (v := 1) hx hb dX7_setOff_49 (by decide) ?_
    refine lv_goto (tgt := 54) hx hb dX7_setOff_50 (by decide) ?_
    exact hJ6 1 H locs ls (by first | omega | decide) (by first | omega | decide) hP hD hS (lv_sub hl [0, 1, 2] rfl)
  · skip
    have fc7 : ¬ (t4.toInt ≤ 2) := fun h9 => c7 (Int32.le_iff_toInt_le.mpr h9)
    refine lv_aload_n hx hb dX7_setOff_20 rfl (lv_at hl 0 rfl) ?_
    refine lv_iload_n hx hb dX7_setOff_21 rfl (lv_at hl 1 rfl) ?_
    refine lv_iconst (v := 1) hx hb dX7_setOff_22 (by decide) ?_
    have hPc := hP.sub (ws' := [(h0, .inr (7, [.ref h1, .ref r0, .int v0, .int v1])), (h1, .inl (g0, 58, .inl f2))]) [0, 1] rfl
    have hDc := hD.sub (ws' := [(h0, .inr (7, [.ref h1, .ref r0, .int v0, .int v1])), (h1, .inl (g0, 58, .inl f2))]) [0, 1] (by decide) rfl
    have hKc := hK.sub (tys' := [(g0, .int)]) [0] rfl
    have hFc := va_free (wc := [(h0, .inr (7, [.ref h1, .ref r0, .int v0, .int v1])), (h1, .inl (g0, 58, .inl f2))]) hD hS hA [0, 1] rfl
    refine va_calli (va_runV (As := [.int v3, .int 1]) (rest := []) ⟨hx, hb, hml, hown, hts⟩ (k_X7_of l dC dI h0 h1 r0 v0 v1 g0 f2 v3 1  H.size) (cwV 2 hts g_X7_setOff_2 rfl rfl rfl (by decide +kernel) ⟨Nat.le_of_ble_eq_true rfl, Nat.le_of_ble_eq_true rfl⟩) ⟨fun a U g mk q => by obtain ⟨q0, q1, qP, qK, qD⟩ := q; exact ⟨q0, q1, qP, va_K.moved (u := U) (U := U.calling g mk a) (Vm.Alike.refl U.vm) qK, qD⟩, va_recv hKc hPc (ci := 7) (q0 := 0) rfl rfl, fun U hU hW => ⟨rfl, by rw [hU], by rw [hU]; exact hPc, va_K.moved hW.alike hKc, hDc.weaken (fun _ _ _ _ => trivial)⟩⟩ rfl rfl hl.1 rfl (lv_room (Nat.le_of_ble_eq_true rfl)) dX7_setOff_23 ⟨Nat.le_of_ble_eq_true rfl, Nat.le_of_ble_eq_true rfl⟩) hS (fun q _ h => hFc q h) hFc (fun ra8 u t H1 locs ht hvm hwra8 hB hz1 hk1 hS => ?_)
    obtain ⟨hP1, hK1, hD1⟩ := hB
    rw [ht] at hP1
    obtain ⟨hP, hD⟩ := va_join (wr := []) (w1 := [(h0, .inr (7, [.ref h1, .ref r0, .int v0, .int v1])), (h1, .inl (g0, 58, .inl f2))]) hP hD [0, 1] [] rfl rfl (by decide) (by decide) hk1 hFc hP1 hD1
    generalize H1 = H at hP hS ⊢
    have hP : va_P (dC, dI) vwCl [(h0, .inr (7, [.ref h1, .ref r0, .int v0, .int v1])), (h1, .inl (g0, 58, .inl f2))] H := hP
    have hD : va_D A [(h0, .inr (7, [.ref h1, .ref r0, .int v0, .int v1])), (h1, .inl (g0, 58, .inl f2))] := hD
    refine lv_aload_n hx hb dX7_setOff_26 rfl (lv_at hl 0 rfl) ?_
    refine lv_iload_n hx hb dX7_setOff_27 rfl (lv_at hl 1 rfl) ?_
    refine lv_iconst (v := 2) hx hb dX7_setOff_28 (by decide) ?_
    have hPc := hP.sub (ws' := [(h0, .inr (7, [.ref h1, .ref r0, .int v0, .int v1])), (h1, .inl (g0, 58, .inl f2))]) [0, 1] rfl
    have hDc := hD.sub (ws' := [(h0, .inr (7, [.ref h1, .ref r0, .int v0, .int v1])), (h1, .inl (g0, 58, .inl f2))]) [0, 1] (by decide) rfl
    have hKc := hK.sub (tys' := [(g0, .int)]) [0] rfl
    have hFc := va_free (wc := [(h0, .inr (7, [.ref h1, .ref r0, .int v0, .int v1])), (h1, .inl (g0, 58, .inl f2))]) hD hS hA [0, 1] rfl
    refine va_calli (va_runV (As := [.int v3, .int 2]) (rest := [.int ra8]) ⟨hx, hb, hml, hown, hts⟩ (k_X7_of l dC dI h0 h1 r0 v0 v1 g0 f2 v3 2  H.size) (cwV 2 hts g_X7_setOff_3 rfl rfl rfl (by decide +kernel) ⟨Nat.le_of_ble_eq_true rfl, Nat.le_of_ble_eq_true rfl⟩) ⟨fun a U g mk q => by obtain ⟨q0, q1, qP, qK, qD⟩ := q; exact ⟨q0, q1, qP, va_K.moved (u := U) (U := U.calling g mk a) (Vm.Alike.refl U.vm) qK, qD⟩, va_recv hKc hPc (ci := 7) (q0 := 0) rfl rfl, fun U hU hW => ⟨rfl, by rw [hU], by rw [hU]; exact hPc, va_K.moved hW.alike hKc, hDc.weaken (fun _ _ _ _ => trivial)⟩⟩ rfl rfl hl.1 rfl (lv_room (Nat.le_of_ble_eq_true rfl)) dX7_setOff_29 ⟨Nat.le_of_ble_eq_true rfl, Nat.le_of_ble_eq_true rfl⟩) hS (fun q _ h => hFc q h) hFc (fun ra9 u t H1 locs ht hvm hwra9 hB hz1 hk1 hS => ?_)
    obtain ⟨hP1, hK1, hD1⟩ := hB
    rw [ht] at hP1
    obtain ⟨hP, hD⟩ := va_join (wr := []) (w1 := [(h0, .inr (7, [.ref h1, .ref r0, .int v0, .int v1])), (h1, .inl (g0, 58, .inl f2))]) hP hD [0, 1] [] rfl rfl (by decide) (by decide) hk1 hFc hP1 hD1
    generalize H1 = H at hP hS ⊢
    have hP : va_P (dC, dI) vwCl [(h0, .inr (7, [.ref h1, .ref r0, .int v0, .int v1])), (h1, .inl (g0, 58, .inl f2))] H := hP
    have hD : va_D A [(h0, .inr (7, [.ref h1, .ref r0, .int v0, .int v1])), (h1, .inl (g0, 58, .inl f2))] := hD
    refine lv_iadd hx hb dX7_setOff_32 ?_
    refine lv_topi (fun t10 et10 => ?_)
    refine lv_aload_n hx hb dX7_setOff_33 rfl (lv_at hl 0 rfl) ?_
    refine lv_iload_n hx hb dX7_setOff_34 rfl (lv_at hl 2 rfl) ?_
    refine lv_iconst (v := 1) hx hb dX7_setOff_35 (by decide) ?_
    have hPc := hP.sub (ws' := [(h0, .inr (7, [.ref h1, .ref r0, .int v0, .int v1])), (h1, .inl (g0, 58, .inl f2))]) [0, 1] rfl
    have hDc := hD.sub (ws' := [(h0, .inr (7, [.ref h1, .ref r0, .int v0, .int v1])), (h1, .inl (g0, 58, .inl f2))]) [0, 1] (by decide) rfl
    have hKc := hK.sub (tys' := [(g0, .int)]) [0] rfl
    have hFc := va_free (wc := [(h0, .inr (7, [.ref h1, .ref r0, .int v0, .int v1])), (h1, .inl (g0, 58, .inl f2))]) hD hS hA [0, 1] rfl
    refine va_calli (va_runV (As := [.int v4, .int 1]) (rest := [.int t10]) ⟨hx, hb, hml, hown, hts⟩ (k_X7_of l dC dI h0 h1 r0 v0 v1 g0 f2 v4 1  H.size) (cwV 2 hts g_X7_setOff_4 rfl rfl rfl (by decide +kernel) ⟨Nat.le_of_ble_eq_true rfl, Nat.le_of_ble_eq_true rfl⟩) ⟨fun a U g mk q => by obtain ⟨q0, q1, qP, qK, qD⟩ := q; exact ⟨q0, q1, qP, va_K.moved (u := U) (U := U.calling g mk a) (Vm.Alike.refl U.vm) qK, qD⟩, va_recv hKc hPc (ci := 7) (q0 := 0) rfl rfl, fun U hU hW => ⟨rfl, by rw [hU], by rw [hU]; exact hPc, va_K.moved hW.alike hKc, hDc.weaken (fun _ _ _ _ => trivial)⟩⟩ rfl rfl hl.1 rfl (lv_room (Nat.le_of_ble_eq_true rfl)) dX7_setOff_36 ⟨Nat.le_of_ble_eq_true rfl, Nat.le_of_ble_eq_true rfl⟩) hS (fun q _ h => hFc q h) hFc (fun ra11 u t H1 locs ht hvm hwra11 hB hz1 hk1 hS => ?_)
    obtain ⟨hP1, hK1, hD1⟩ := hB
    rw [ht] at hP1
    obtain ⟨hP, hD⟩ := va_join (wr := []) (w1 := [(h0, .inr (7, [.ref h1, .ref r0, .int v0, .int v1])), (h1, .inl (g0, 58, .inl f2))]) hP hD [0, 1] [] rfl rfl (by decide) (by decide) hk1 hFc hP1 hD1
    generalize H1 = H at hP hS ⊢
    have hP : va_P (dC, dI) vwCl [(h0, .inr (7, [.ref h1, .ref r0, .int v0, .int v1])), (h1, .inl (g0, 58, .inl f2))] H := hP
    have hD : va_D A [(h0, .inr (7, [.ref h1, .ref r0, .int v0, .int v1])), (h1, .inl (g0, 58, .inl f2))] := hD
    refine lv_aload_n hx hb dX7_setOff_39 rfl (lv_at hl 0 rfl) ?_
    refine lv_iload_n hx hb dX7_setOff_40 rfl (lv_at hl 2 rfl) ?_
    refine lv_iconst (v := 2) hx hb dX7_setOff_41 (by decide) ?_
    have hPc := hP.sub (ws' := [(h0, .inr (7, [.ref h1, .ref r0, .int v0, .int v1])), (h1, .inl (g0, 58, .inl f2))]) [0, 1] rfl
    have hDc := hD.sub (ws' := [(h0, .inr (7, [.ref h1, .ref r0, .int v0, .int v1])), (h1, .inl (g0, 58, .inl f2))]) [0, 1] (by decide) rfl
    have hKc := hK.sub (tys' := [(g0, .int)]) [0] rfl
    have hFc := va_free (wc := [(h0, .inr (7, [.ref h1, .ref r0, .int v0, .int v1])), (h1, .inl (g0, 58, .inl f2))]) hD hS hA [0, 1] rfl
    refine va_calli (va_runV (As := [.int v4, .int 2]) (rest := [.int ra11, .int t10]) ⟨hx, hb, hml, hown, hts⟩ (k_X7_of l dC dI h0 h1 r0 v0 v1 g0 f2 v4 2  H.size) (cwV 2 hts g_X7_setOff_5 rfl rfl rfl (by decide +kernel) ⟨Nat.le_of_ble_eq_true rfl, Nat.le_of_ble_eq_true rfl⟩) ⟨fun a U g mk q => by obtain ⟨q0, q1, qP, qK, qD⟩ := q; exact ⟨q0, q1, qP, va_K.moved (u := U) (U := U.calling g mk a) (Vm.Alike.refl U.vm) qK, qD⟩, va_recv hKc hPc (ci := 7) (q0 := 0) rfl rfl, fun U hU hW => ⟨rfl, by rw [hU], by rw [hU]; exact hPc, va_K.moved hW.alike hKc, hDc.weaken (fun _ _ _ _ => trivial)⟩⟩ rfl rfl hl.1 rfl (lv_room (Nat.le_of_ble_eq_true rfl)) dX7_setOff_42 ⟨Nat.le_of_ble_eq_true rfl, Nat.le_of_ble_eq_true rfl⟩) hS (fun q _ h => hFc q h) hFc (fun ra12 u t H1 locs ht hvm hwra12 hB hz1 hk1 hS => ?_)
    obtain ⟨hP1, hK1, hD1⟩ := hB
    rw [ht] at hP1
    obtain ⟨hP, hD⟩ := va_join (wr := []) (w1 := [(h0, .inr (7, [.ref h1, .ref r0, .int v0, .int v1])), (h1, .inl (g0, 58, .inl f2))]) hP hD [0, 1] [] rfl rfl (by decide) (by decide) hk1 hFc hP1 hD1
    generalize H1 = H at hP hS ⊢
    have hP : va_P (dC, dI) vwCl [(h0, .inr (7, [.ref h1, .ref r0, .int v0, .int v1])), (h1, .inl (g0, 58, .inl f2))] H := hP
    have hD : va_D A [(h0, .inr (7, [.ref h1, .ref r0, .int v0, .int v1])), (h1, .inl (g0, 58, .inl f2))] := hD
    refine lv_iadd hx hb dX7_setOff_45 ?_
    refine lv_topi (fun t13 et13 => ?_)
    refine lv_icmp_ne (tgt := 53) hx hb dX7_setOff_46 (by decide) (fun c14 => ?_) (fun c14 => ?_)
    · skip
      have fc14 : ¬ (t10.toInt = t13.toInt) := fun h9 => c14 (Int32.toInt_inj.mp h9)
      refine lv_iconst (v := 0) hx hb dX7_setOff_53 (by decide) ?_
      exact hJ6 0 H locs ls (by first | omega | decide) (by first | omega | decide) hP hD hS (lv_sub hl [0, 1, 2] rfl)
    · skip
      have fc14 : t10.toInt = t13.toInt := congrArg Int32.toInt c14
      refine lv_iconst (v := 1) hx hb dX7_setOff_49 (by decide) ?_
      refine lv_goto (tgt := 54) hx hb dX7_setOff_50 (by decide) ?_
      exact hJ6 1 H locs ls (by first | omega | decide) (by first | omega | decide) hP hD hS (lv_sub hl [0, 1, 2] rfl)
def q_X7_circleOf : List Cond := .code yX7_circleOf cX7_circleOf 4 (some .int) :: (([.code yX7_has cX7_has 2 (some .boolean), .fieldLink RX7 11 "LeftArguments$Room" "cells" "[I", .initialized RX7, .instanceMethod yX7_has, .selects RX7 yX7_has yX7_has, .methodLink RX7 70 yX7_has, .code yX7_setOff cX7_setOff 3 (some .boolean), .code yX7_of cX7_of 3 (some .int), .instanceMethod yX7_of, .selects RX7 yX7_of yX7_of, .methodLink RX7 74 yX7_of, .methodLink RX7 110 Lib.Math.abs.name, .static Lib.Math.abs.name, .initialized "java/lang/Math", .code Lib.Math.abs.name Lib.Math.abs.code 1 (some .int), .instanceMethod yX7_setOff, .selects RX7 yX7_setOff yX7_setOff, .methodLink RX7 113 yX7_setOff] : List Cond) ++ wsX70)
set_option maxRecDepth 20000 in
theorem g_X7_circleOf_0 : GoodIn q_X7_circleOf (wsV RX7 70 RX7 yX7_has q_X7_has) := goodIn_app (goodIn_r _ [6, 4, 5, 3] (by decide +kernel) (by decide +kernel)) (goodIn_ca (goodIn_r (.code yX7_has cX7_has 2 (some .boolean) :: [.fieldLink RX7 11 "LeftArguments$Room" "cells" "[I"]) [1, 2] (by decide +kernel) (by decide +kernel)) (goodIn_sub (fun _ h => List.mem_cons_of_mem _ (List.mem_append_right _ h)) gwX7))
set_option maxRecDepth 20000 in
theorem g_X7_circleOf_1 : GoodIn q_X7_circleOf (wsV RX7 113 RX7 yX7_setOff q_X7_setOff) := goodIn_app (goodIn_r _ [18, 16, 17, 3] (by decide +kernel) (by decide +kernel)) (goodIn_ca (goodIn_r (.code yX7_setOff cX7_setOff 3 (some .boolean) :: [.code yX7_of cX7_of 3 (some .int), .fieldLink RX7 11 "LeftArguments$Room" "cells" "[I", .initialized RX7, .instanceMethod yX7_of, .selects RX7 yX7_of yX7_of, .methodLink RX7 74 yX7_of, .methodLink RX7 110 Lib.Math.abs.name, .static Lib.Math.abs.name, .initialized "java/lang/Math", .code Lib.Math.abs.name Lib.Math.abs.code 1 (some .int)]) [7, 8, 2, 3, 9, 10, 11, 12, 13, 14, 15] (by decide +kernel) (by decide +kernel)) (goodIn_sub (fun _ h => List.mem_cons_of_mem _ (List.mem_append_right _ h)) gwX7))
set_option maxHeartbeats 4000000 in
set_option maxRecDepth 100000 in
theorem k_X7_circleOf (l : Launch) (dC : Nat → ClassId) (dI : Nat → Nat → Nat) (h0 : Nat) (h1 : Nat) (r0 : Nat) (v0 : Int32) (v1 : Int32) (g0 : ClassId) (f2 : Nat → Int32) (v3 : Int32) (sz : Nat) : Met l yX7_circleOf q_X7_circleOf ({ frames := 2, cells := 0, slots := 0, locals := 44 }) (va_Pc [.ref h0, .int v3] (fun U => U.heap.size = sz ∧ va_P (dC, dI) vwCl [(h0, .inr (7, [.ref h1, .ref r0, .int v0, .int v1])), (h1, .inl (g0, 58, .inl f2))] U.heap ∧ va_K (dC, dI) vwCl [(g0, .int)] U ∧ va_D (fun _ => True) [(h0, .inr (7, [.ref h1, .ref r0, .int v0, .int v1])), (h1, .inl (g0, 58, .inl f2))])) (va_Qi (fun (r : Int32) (_ : Unit) => True) (fun (_ : Unit) (t : State) => va_P (dC, dI) vwCl [(h0, .inr (7, [.ref h1, .ref r0, .int v0, .int v1])), (h1, .inl (g0, 58, .inl f2))] t.heap ∧ va_K (dC, dI) vwCl [] t ∧ va_D (va_A [(h0, .inr (7, [.ref h1, .ref r0, .int v0, .int v1])), (h1, .inl (g0, 58, .inl f2))] sz) [(h0, .inr (7, [.ref h1, .ref r0, .int v0, .int v1])), (h1, .inl (g0, 58, .inl f2))]) (va_A [(h0, .inr (7, [.ref h1, .ref r0, .int v0, .int v1])), (h1, .inl (g0, 58, .inl f2))] sz)) 0 0 (va_A [(h0, .inr (7, [.ref h1, .ref r0, .int v0, .int v1])), (h1, .inl (g0, 58, .inl f2))] sz) := by
  refine Met.ofW (cc := cX7_circleOf) (maxL := 4) (ret := (some .int)) (by decide) rfl ?_
  intro p e s m args below meth c s₁ B hml hv
  obtain ⟨rfl, hsz, hP, hK, hD0⟩ := hv
  have hx := B.exec
  have hb := B.bytes
  have hr := B.returns
  have hts := atoms_spec (ws := q_X7_circleOf) B.pre
  have hown : s.vm.findClass RX7 = some m.cls := findClass_of_methodNamed B.named
  have hlocks := B.notSynchronized
  subst hsz
  have hD := hD0.self (sz := s.heap.size)
  generalize hAe : va_A [(h0, .inr (7, [.ref h1, .ref r0, .int v0, .int v1])), (h1, .inl (g0, 58, .inl f2))] s.heap.size = A at hD ⊢
  have hA : ∀ q : Nat, s.heap.size ≤ q → A q := fun q h => by rw [← hAe]; exact Or.inr h
  have hS : va_S A s.heap s.heap [] := va_S.rf
  generalize hQ : (MQ below _ _ s 0 0 A) = Q
  have hl := lv_entry ([.ref h0, .int v3]) (n := 4) (Nat.le_of_ble_eq_true rfl)
  rw [lg_entry_eq]
  generalize (lg_sl ([.ref h0, .int v3]) ++ List.replicate (4 - (lg_sl ([.ref h0, .int v3])).length) Slot.unset).toArray = ls at hl ⊢
  have hl : lv_has ls 4 [(0, .ref h0), (1, .int v3)] := hl
  obtain ⟨H, hH⟩ : ∃ H : Heap, H = s.heap := ⟨_, rfl⟩
  obtain ⟨locs, hlocs⟩ : ∃ y : List Loc, y = [] := ⟨_, rfl⟩
  have hS : va_S A s.heap H locs := by rw [hH, hlocs]; exact va_S.rf
  have hP : va_P (dC, dI) vwCl [(h0, .inr (7, [.ref h1, .ref r0, .int v0, .int v1])), (h1, .inl (g0, 58, .inl f2))] H := by rw [hH]; exact hP
  rw [← hH, ← hlocs]
  refine lv_iconst (v := 0) hx hb dX7_circleOf_0 (by decide) ?_
  refine lv_istore_n (lv' := [(2, .int 0), (0, .ref h0), (1, .int v3)]) hx hb dX7_circleOf_1 rfl hl (by decide) rfl (fun ls hl => ?_)
  refine lv_iconst (v := 0) hx hb dX7_circleOf_2 (by decide) ?_
  refine lv_istore_n (lv' := [(3, .int 0), (2, .int 0), (0, .ref h0), (1, .int v3)]) hx hb dX7_circleOf_3 rfl hl (by decide) rfl (fun ls hl => ?_)
  have hL9 : ∀ (n9 : Nat), ∀ (x5 : Int32) (x6 : Int32) (H : Heap) (locs : List Loc) (ls : Array Slot), 0 ≤ x5.toInt → x5.toInt ≤ 8 → (8 - x5.toInt).toNat < n9 → va_P (dC, dI) vwCl [(h0, .inr (7, [.ref h1, .ref r0, .int v0, .int v1])), (h1, .inl (g0, 58, .inl f2))] H → va_D A [(h0, .inr (7, [.ref h1, .ref r0, .int v0, .int v1])), (h1, .inl (g0, 58, .inl f2))] → va_S A s.heap H locs → lv_has ls 4 [(3, .int x5), (2, .int x6), (0, .ref h0), (1, .int v3)] → W p l e ({ frames := 2, cells := 0, slots := 0, locals := 44 }) s m ([.ref h0, .int v3] : List Value).toArray below meth c H locs 0 0 Q (F0 m 4 ls []) := by
    intro n9
    induction n9 with
    | zero => intro x5 x6 H locs ls q0_x5 q1_x5 hm9 hP hD hS hl; exact absurd hm9 (Nat.not_lt_zero _)
    | succ n9 ih =>
      intro x5 x6 H locs ls q0_x5 q1_x5 hm9 hP hD hS hl
      refine lv_iload_n hx hb dX7_circleOf_4 rfl (lv_at hl 0 rfl) ?_
      refine lv_bipush (v := 8) hx hb dX7_circleOf_5 (by decide) ?_
      refine lv_icmp_ge (tgt := 39) hx hb dX7_circleOf_7 (by decide) (fun c10 => ?_) (fun c10 => ?_)
      · skip
        have fc10 : 8 ≤ x5.toInt := Int32.le_iff_toInt_le.mp c10
        refine lv_iload_n hx hb dX7_circleOf_39 rfl (lv_at hl 1 rfl) ?_
        subst hQ
        have hP9 := hP.sub (ws' := [(h0, .inr (7, [.ref h1, .ref r0, .int v0, .int v1])), (h1, .inl (g0, 58, .inl f2))]) [0, 1] rfl
        have hD9 := hD.sub (ws' := [(h0, .inr (7, [.ref h1, .ref r0, .int v0, .int v1])), (h1, .inl (g0, 58, .inl f2))]) [0, 1] (by decide) rfl
        have hK9 := hK.sub (tys' := []) [] rfl
        exact W.iret (v := x6) hx hb hr (fun t ht hW => ⟨⟨x6, (), rfl, trivial, by rw [ht]; exact hP9, va_K.moved hW.alike hK9, hD9⟩, hS.F ht⟩) hS.2.2 dX7_circleOf_40
      · skip
        have fc10 : ¬ (8 ≤ x5.toInt) := fun h9 => c10 (Int32.le_iff_toInt_le.mpr h9)
        refine lv_aload_n hx hb dX7_circleOf_10 rfl (lv_at hl 2 rfl) ?_
        refine lv_iload_n hx hb dX7_circleOf_11 rfl (lv_at hl 0 rfl) ?_
        have hPc := hP.sub (ws' := [(h0, .inr (7, [.ref h1, .ref r0, .int v0, .int v1])), (h1, .inl (g0, 58, .inl f2))]) [0, 1] rfl
        have hDc := hD.sub (ws' := [(h0, .inr (7, [.ref h1, .ref r0, .int v0, .int v1])), (h1, .inl (g0, 58, .inl f2))]) [0, 1] (by decide) rfl
        have hKc := hK.sub (tys' := [(g0, .int)]) [0] rfl
        have hFc := va_free (wc := [(h0, .inr (7, [.ref h1, .ref r0, .int v0, .int v1])), (h1, .inl (g0, 58, .inl f2))]) hD hS hA [0, 1] rfl
        refine va_calli (va_runV (As := [.int x5]) (rest := []) ⟨hx, hb, hml, hown, hts⟩ (k_X7_has l dC dI h0 h1 r0 v0 v1 g0 f2 x5  H.size) (cwV 1 hts g_X7_circleOf_0 rfl rfl rfl (by decide +kernel) ⟨Nat.le_of_ble_eq_true rfl, Nat.le_of_ble_eq_true rfl⟩) ⟨fun a U g mk q => by obtain ⟨q0, q1, qP, qK, qD⟩ := q; exact ⟨q0, q1, qP, va_K.moved (u := U) (U := U.calling g mk a) (Vm.Alike.refl U.vm) qK, qD⟩, va_recv hKc hPc (ci := 7) (q0 := 0) rfl rfl, fun U hU hW => ⟨rfl, by rw [hU], by rw [hU]; exact hPc, va_K.moved hW.alike hKc, hDc.weaken (fun _ _ _ _ => trivial)⟩⟩ rfl rfl hl.1 rfl (lv_room (Nat.le_of_ble_eq_true rfl)) dX7_circleOf_12 ⟨Nat.le_of_ble_eq_true rfl, Nat.le_of_ble_eq_true rfl⟩) hS (fun q _ h => hFc q h) hFc (fun ra11 u t H1 locs ht hvm hwra11 hB hz1 hk1 hS => ?_)
        obtain ⟨hP1, hK1, hD1⟩ := hB
        rw [ht] at hP1
        obtain ⟨hP, hD⟩ := va_join (wr := []) (w1 := [(h0, .inr (7, [.ref h1, .ref r0, .int v0, .int v1])), (h1, .inl (g0, 58, .inl f2))]) hP hD [0, 1] [] rfl rfl (by decide) (by decide) hk1 hFc hP1 hD1
        generalize H1 = H at hP hS ⊢
        have hP : va_P (dC, dI) vwCl [(h0, .inr (7, [.ref h1, .ref r0, .int v0, .int v1])), (h1, .inl (g0, 58, .inl f2))] H := hP
        have hD : va_D A [(h0, .inr (7, [.ref h1, .ref r0, .int v0, .int v1])), (h1, .inl (g0, 58, .inl f2))] := hD
        obtain ⟨wa_ra11, wb_ra11⟩ := hwra11
        have wa_ra11 : 0 ≤ ra11.toInt := wa_ra11
        have wb_ra11 : ra11.toInt ≤ 1 := wb_ra11
        have hJ13 : ∀ (x12 : Int32) (H : Heap) (locs : List Loc) (ls : Array Slot), va_P (dC, dI) vwCl [(h0, .inr (7, [.ref h1, .ref r0, .int v0, .int v1])), (h1, .inl (g0, 58, .inl f2))] H → va_D A [(h0, .inr (7, [.ref h1, .ref r0, .int v0, .int v1])), (h1, .inl (g0, 58, .inl f2))] → va_S A s.heap H locs → lv_has ls 4 [(3, .int x5), (2, .int x12), (0, .ref h0), (1, .int v3)] → W p l e ({ frames := 2, cells := 0, slots := 0, locals := 44 }) s m ([.ref h0, .int v3] : List Value).toArray below meth c H locs 0 0 Q (F0 m 33 ls []) := by
          intro x12 H locs ls hP hD hS hl
          obtain ⟨t14, et14⟩ : ∃ y : Int32, y = x5 + 1 := ⟨_, rfl⟩
          have gt14 : t14.toInt = x5.toInt + (1) := pv_add (a := x5.toInt) (b := (1)) et14 rfl (by decide) (by omega) (by omega)
          refine lv_iinc (v := t14) (lv' := [(3, .int t14), (2, .int x12), (0, .ref h0), (1, .int v3)]) hx hb dX7_circleOf_33 hl (k := 0) rfl (by rw [et14]; rfl) (by decide) rfl (fun ls hl => ?_)
          refine lv_goto (tgt := 4) hx hb dX7_circleOf_36 (by decide) ?_
          exact ih t14 x12 H locs ls (by first | omega | decide) (by first | omega | decide) (by first | omega | (simp only [Int.toNat] at *; omega)) hP hD hS (lv_sub hl [0, 1, 2, 3] rfl)
        refine lv_if_eq (tgt := 33) hx hb dX7_circleOf_15 (by decide) (fun c15 => ?_) (fun c15 => ?_)
        · skip
          have fc15 : ra11.toInt = 0 := congrArg Int32.toInt c15
          exact hJ13 x6 H locs ls hP hD hS (lv_sub hl [0, 1, 2, 3] rfl)
        · skip
          have fc15 : ¬ (ra11.toInt = 0) := fun h9 => c15 (Int32.toInt_inj.mp h9)
          refine lv_aload_n hx hb dX7_circleOf_18 rfl (lv_at hl 2 rfl) ?_
          refine lv_iload_n hx hb dX7_circleOf_19 rfl (lv_at hl 3 rfl) ?_
          refine lv_iload_n hx hb dX7_circleOf_20 rfl (lv_at hl 0 rfl) ?_
          have hPc := hP.sub (ws' := [(h0, .inr (7, [.ref h1, .ref r0, .int v0, .int v1])), (h1, .inl (g0, 58, .inl f2))]) [0, 1] rfl
          have hDc := hD.sub (ws' := [(h0, .inr (7, [.ref h1, .ref r0, .int v0, .int v1])), (h1, .inl (g0, 58, .inl f2))]) [0, 1] (by decide) rfl
          have hKc := hK.sub (tys' := [(g0, .int)]) [0] rfl
          have hFc := va_free (wc := [(h0, .inr (7, [.ref h1, .ref r0, .int v0, .int v1])), (h1, .inl (g0, 58, .inl f2))]) hD hS hA [0, 1] rfl
          refine va_calli (va_runV (As := [.int v3, .int x5]) (rest := []) ⟨hx, hb, hml, hown, hts⟩ (k_X7_setOff l dC dI h0 h1 r0 v0 v1 g0 f2 v3 x5  H.size) (cwV 2 hts g_X7_circleOf_1 rfl rfl rfl (by decide +kernel) ⟨Nat.le_of_ble_eq_true rfl, Nat.le_of_ble_eq_true rfl⟩) ⟨fun a U g mk q => by obtain ⟨q0, q1, qP, qK, qD⟩ := q; exact ⟨q0, q1, qP, va_K.moved (u := U) (U := U.calling g mk a) (Vm.Alike.refl U.vm) qK, qD⟩, va_recv hKc hPc (ci := 7) (q0 := 0) rfl rfl, fun U hU hW => ⟨rfl, by rw [hU], by rw [hU]; exact hPc, va_K.moved hW.alike hKc, hDc.weaken (fun _ _ _ _ => trivial)⟩⟩ rfl rfl hl.1 rfl (lv_room (Nat.le_of_ble_eq_true rfl)) dX7_circleOf_21 ⟨Nat.le_of_ble_eq_true rfl, Nat.le_of_ble_eq_true rfl⟩) hS (fun q _ h => hFc q h) hFc (fun ra16 u t H1 locs ht hvm hwra16 hB hz1 hk1 hS => ?_)
          obtain ⟨hP1, hK1, hD1⟩ := hB
          rw [ht] at hP1
          obtain ⟨hP, hD⟩ := va_join (wr := []) (w1 := [(h0, .inr (7, [.ref h1, .ref r0, .int v0, .int v1])), (h1, .inl (g0, 58, .inl f2))]) hP hD [0, 1] [] rfl rfl (by decide) (by decide) hk1 hFc hP1 hD1
          generalize H1 = H at hP hS ⊢
          have hP : va_P (dC, dI) vwCl [(h0, .inr (7, [.ref h1, .ref r0, .int v0, .int v1])), (h1, .inl (g0, 58, .inl f2))] H := hP
          have hD : va_D A [(h0, .inr (7, [.ref h1, .ref r0, .int v0, .int v1])), (h1, .inl (g0, 58, .inl f2))] := hD
          obtain ⟨wa_ra16, wb_ra16⟩ := hwra16
          have wa_ra16 : 0 ≤ ra16.toInt := wa_ra16
          have wb_ra16 : ra16.toInt ≤ 1 := wb_ra16
          refine lv_if_eq (tgt := 33) hx hb dX7_circleOf_24 (by decide) (fun c17 => ?_) (fun c17 => ?_)
          · skip
            have fc17 : ra16.toInt = 0 := congrArg Int32.toInt c17
            exact hJ13 x6 H locs ls hP hD hS (lv_sub hl [0, 1, 2, 3] rfl)
          · skip
            have fc17 : ¬ (ra16.toInt = 0) := fun h9 => c17 (Int32.toInt_inj.mp h9)
            refine lv_iload_n hx hb dX7_circleOf_27 rfl (lv_at hl 1 rfl) ?_
            refine lv_iconst (v := 1) hx hb dX7_circleOf_28 (by decide) ?_
            refine lv_iload_n hx hb dX7_circleOf_29 rfl (lv_at hl 0 rfl) ?_
            refine lv_ishl hx hb dX7_circleOf_30 ?_
            refine lv_topi (fun t18 et18 => ?_)
            refine lv_ior hx hb dX7_circleOf_31 ?_
            refine lv_topi (fun t19 et19 => ?_)
            refine lv_istore_n (lv' := [(2, .int t19), (3, .int x5), (0, .ref h0), (1, .int v3)]) hx hb dX7_circleOf_32 rfl hl (by decide) rfl (fun ls hl => ?_)
            exact hJ13 t19 H locs ls hP hD hS (lv_sub hl [1, 0, 2, 3] rfl)
  exact hL9 _ 0 0 H locs ls (by first | omega | decide) (by first | omega | decide) (Nat.lt_succ_self _) hP hD hS (lv_sub hl [0, 1, 2, 3] rfl)
def q_J6_bitCount_0f7a4 : List Cond := .code yJ6_bitCount_0f7a4 cJ6_bitCount_0f7a4 1 (some .int) :: (([.constant RJ6 265 (1431655765), .constant RJ6 266 (858993459), .constant RJ6 267 (252645135)] : List Cond))
set_option maxHeartbeats 4000000 in
set_option maxRecDepth 100000 in
theorem k_J6_bitCount_0f7a4 (l : Launch) (dC : Nat → ClassId) (dI : Nat → Nat → Nat) (v0 : Int32) (sz : Nat) : Met l yJ6_bitCount_0f7a4 q_J6_bitCount_0f7a4 ({ frames := 0, cells := 0, slots := 0, locals := 0 }) (va_Pc [.int v0] (fun U => U.heap.size = sz ∧ va_P (dC, dI) vwCl [] U.heap ∧ va_K (dC, dI) vwCl [] U ∧ va_D (fun _ => True) [])) (va_Qi (fun (r : Int32) (_ : Unit) => 0 ≤ r.toInt ∧ r.toInt ≤ 63) (fun (_ : Unit) (t : State) => va_P (dC, dI) vwCl [] t.heap ∧ va_K (dC, dI) vwCl [] t ∧ va_D (va_A [] sz) []) (va_A [] sz)) 0 0 (va_A [] sz) := by
  refine Met.ofW (cc := cJ6_bitCount_0f7a4) (maxL := 1) (ret := (some .int)) (by decide) rfl ?_
  intro p e s m args below meth c s₁ B hml hv
  obtain ⟨rfl, hsz, hP, hK, hD0⟩ := hv
  have hx := B.exec
  have hb := B.bytes
  have hr := B.returns
  have hts := atoms_spec (ws := q_J6_bitCount_0f7a4) B.pre
  have hown : s.vm.findClass RJ6 = some m.cls := findClass_of_methodNamed B.named
  have hlocks := B.notSynchronized
  subst hsz
  have hD := hD0.self (sz := s.heap.size)
  generalize hAe : va_A [] s.heap.size = A at hD ⊢
  have hA : ∀ q : Nat, s.heap.size ≤ q → A q := fun q h => by rw [← hAe]; exact Or.inr h
  have hS : va_S A s.heap s.heap [] := va_S.rf
  generalize hQ : (MQ below _ _ s 0 0 A) = Q
  have hl := lv_entry ([.int v0]) (n := 1) (Nat.le_of_ble_eq_true rfl)
  rw [lg_entry_eq]
  generalize (lg_sl ([.int v0]) ++ List.replicate (1 - (lg_sl ([.int v0])).length) Slot.unset).toArray = ls at hl ⊢
  have hl : lv_has ls 1 [(0, .int v0)] := hl
  obtain ⟨H, hH⟩ : ∃ H : Heap, H = s.heap := ⟨_, rfl⟩
  obtain ⟨locs, hlocs⟩ : ∃ y : List Loc, y = [] := ⟨_, rfl⟩
  have hS : va_S A s.heap H locs := by rw [hH, hlocs]; exact va_S.rf
  have hP : va_P (dC, dI) vwCl [] H := by rw [hH]; exact hP
  rw [← hH, ← hlocs]
  refine lv_iload_n hx hb dJ6_bitCount_0f7a4_0 rfl (lv_at hl 0 rfl) ?_
  refine lv_iload_n hx hb dJ6_bitCount_0f7a4_1 rfl (lv_at hl 0 rfl) ?_
  refine lv_iconst (v := 1) hx hb dJ6_bitCount_0f7a4_2 (by decide) ?_
  refine lv_iushr (v := ((v0 : Int32).toUInt32 >>> ((1 : Int32).toUInt32 &&& Int32.toUInt32 31)).toInt32) hx hb dJ6_bitCount_0f7a4_3 rfl ?_
  refine lv_topi (fun t1 et1 => ?_)
  refine lv_ldcw (v := 1431655765) hx hb hown (hts (.constant RJ6 265 (1431655765)) (List.mem_cons_of_mem _ (List.mem_of_getElem? (i := 0) rfl))) dJ6_bitCount_0f7a4_4 ?_
  refine lv_iand hx hb dJ6_bitCount_0f7a4_7 ?_
  refine lv_topi (fun t2 et2 => ?_)
  have gt2 : 0 ≤ t2.toInt ∧ t2.toInt ≤ 1431655765 := pv_andR et2 (by decide) (by decide)
  refine lv_isub hx hb dJ6_bitCount_0f7a4_8 ?_
  refine lv_topi (fun t3 et3 => ?_)
  refine lv_istore_n (lv' := [(0, .int t3)]) hx hb dJ6_bitCount_0f7a4_9 rfl hl (by decide) rfl (fun ls hl => ?_)
  refine lv_iload_n hx hb dJ6_bitCount_0f7a4_10 rfl (lv_at hl 0 rfl) ?_
  refine lv_ldcw (v := 858993459) hx hb hown (hts (.constant RJ6 266 (858993459)) (List.mem_cons_of_mem _ (List.mem_of_getElem? (i := 1) rfl))) dJ6_bitCount_0f7a4_11 ?_
  refine lv_iand hx hb dJ6_bitCount_0f7a4_14 ?_
  refine lv_topi (fun t4 et4 => ?_)
  have gt4 : 0 ≤ t4.toInt ∧ t4.toInt ≤ 858993459 := pv_andR et4 (by decide) (by decide)
  refine lv_iload_n hx hb dJ6_bitCount_0f7a4_15 rfl (lv_at hl 0 rfl) ?_
  refine lv_iconst (v := 2) hx hb dJ6_bitCount_0f7a4_16 (by decide) ?_
  refine lv_iushr (v := ((t3 : Int32).toUInt32 >>> ((2 : Int32).toUInt32 &&& Int32.toUInt32 31)).toInt32) hx hb dJ6_bitCount_0f7a4_17 rfl ?_
  refine lv_topi (fun t5 et5 => ?_)
  refine lv_ldcw (v := 858993459) hx hb hown (hts (.constant RJ6 266 (858993459)) (List.mem_cons_of_mem _ (List.mem_of_getElem? (i := 1) rfl))) dJ6_bitCount_0f7a4_18 ?_
  refine lv_iand hx hb dJ6_bitCount_0f7a4_21 ?_
  refine lv_topi (fun t6 et6 => ?_)
  have gt6 : 0 ≤ t6.toInt ∧ t6.toInt ≤ 858993459 := pv_andR et6 (by decide) (by decide)
  refine lv_iadd hx hb dJ6_bitCount_0f7a4_22 ?_
  refine lv_topi (fun t7 et7 => ?_)
  have gt7 : t7.toInt = t4.toInt + t6.toInt := pv_add (a := t4.toInt) (b := t6.toInt) et7 rfl rfl (by omega) (by omega)
  refine lv_istore_n (lv' := [(0, .int t7)]) hx hb dJ6_bitCount_0f7a4_23 rfl hl (by decide) rfl (fun ls hl => ?_)
  refine lv_iload_n hx hb dJ6_bitCount_0f7a4_24 rfl (lv_at hl 0 rfl) ?_
  refine lv_iload_n hx hb dJ6_bitCount_0f7a4_25 rfl (lv_at hl 0 rfl) ?_
  refine lv_iconst (v := 4) hx hb dJ6_bitCount_0f7a4_26 (by decide) ?_
  refine lv_iushr (v := ((t7 : Int32).toUInt32 >>> ((4 : Int32).toUInt32 &&& Int32.toUInt32 31)).toInt32) hx hb dJ6_bitCount_0f7a4_27 rfl ?_
  refine lv_topi (fun t8 et8 => ?_)
  refine lv_iadd hx hb dJ6_bitCount_0f7a4_28 ?_
  refine lv_topi (fun t9 et9 => ?_)
  refine lv_ldcw (v := 252645135) hx hb hown (hts (.constant RJ6 267 (252645135)) (List.mem_cons_of_mem _ (List.mem_of_getElem? (i := 2) rfl))) dJ6_bitCount_0f7a4_29 ?_
  refine lv_iand hx hb dJ6_bitCount_0f7a4_32 ?_
  refine lv_topi (fun t10 et10 => ?_)
  have gt10 : 0 ≤ t10.toInt ∧ t10.toInt ≤ 252645135 := pv_andR et10 (by decide) (by decide)
  refine lv_istore_n (lv' := [(0, .int t10)]) hx hb dJ6_bitCount_0f7a4_33 rfl hl (by decide) rfl (fun ls hl => ?_)
  refine lv_iload_n hx hb dJ6_bitCount_0f7a4_34 rfl (lv_at hl 0 rfl) ?_
  refine lv_iload_n hx hb dJ6_bitCount_0f7a4_35 rfl (lv_at hl 0 rfl) ?_
  refine lv_bipush (v := 8) hx hb dJ6_bitCount_0f7a4_36 (by decide) ?_
  refine lv_iushr (v := ((t10 : Int32).toUInt32 >>> ((8 : Int32).toUInt32 &&& Int32.toUInt32 31)).toInt32) hx hb dJ6_bitCount_0f7a4_38 rfl ?_
  refine lv_topi (fun t11 et11 => ?_)
  refine lv_iadd hx hb dJ6_bitCount_0f7a4_39 ?_
  refine lv_topi (fun t12 et12 => ?_)
  refine lv_istore_n (lv' := [(0, .int t12)]) hx hb dJ6_bitCount_0f7a4_40 rfl hl (by decide) rfl (fun ls hl => ?_)
  refine lv_iload_n hx hb dJ6_bitCount_0f7a4_41 rfl (lv_at hl 0 rfl) ?_
  refine lv_iload_n hx hb dJ6_bitCount_0f7a4_42 rfl (lv_at hl 0 rfl) ?_
  refine lv_bipush (v := 16) hx hb dJ6_bitCount_0f7a4_43 (by decide) ?_
  refine lv_iushr (v := ((t12 : Int32).toUInt32 >>> ((16 : Int32).toUInt32 &&& Int32.toUInt32 31)).toInt32) hx hb dJ6_bitCount_0f7a4_45 rfl ?_
  refine lv_topi (fun t13 et13 => ?_)
  refine lv_iadd hx hb dJ6_bitCount_0f7a4_46 ?_
  refine lv_topi (fun t14 et14 => ?_)
  refine lv_istore_n (lv' := [(0, .int t14)]) hx hb dJ6_bitCount_0f7a4_47 rfl hl (by decide) rfl (fun ls hl => ?_)
  refine lv_iload_n hx hb dJ6_bitCount_0f7a4_48 rfl (lv_at hl 0 rfl) ?_
  refine lv_bipush (v := 63) hx hb dJ6_bitCount_0f7a4_49 (by decide) ?_
  refine lv_iand hx hb dJ6_bitCount_0f7a4_51 ?_
  refine lv_topi (fun t15 et15 => ?_)
  have gt15 : 0 ≤ t15.toInt ∧ t15.toInt ≤ 63 := pv_andR et15 (by decide) (by decide)
  subst hQ
  have hP9 := hP.sub (ws' := []) [] rfl
  have hD9 := hD.sub (ws' := []) [] (by decide) rfl
  have hK9 := hK.sub (tys' := []) [] rfl
  exact W.iret (v := t15) hx hb hr (fun t ht hW => ⟨⟨t15, (), rfl, ⟨by first | omega | decide, by first | omega | decide⟩, by rw [ht]; exact hP9, va_K.moved hW.alike hK9, hD9⟩, hS.F ht⟩) hS.2.2 dJ6_bitCount_0f7a4_52
def q_X7_quarrels : List Cond := .code yX7_quarrels cX7_quarrels 3 (some .int) :: (([.code yX7_has cX7_has 2 (some .boolean), .fieldLink RX7 11 "LeftArguments$Room" "cells" "[I", .initialized RX7, .instanceMethod yX7_has, .selects RX7 yX7_has yX7_has, .methodLink RX7 70 yX7_has, .code yX7_circleOf cX7_circleOf 4 (some .int), .code yX7_setOff cX7_setOff 3 (some .boolean), .code yX7_of cX7_of 3 (some .int), .instanceMethod yX7_of, .selects RX7 yX7_of yX7_of, .methodLink RX7 74 yX7_of, .methodLink RX7 110 Lib.Math.abs.name, .static Lib.Math.abs.name, .initialized "java/lang/Math", .code Lib.Math.abs.name Lib.Math.abs.code 1 (some .int), .instanceMethod yX7_setOff, .selects RX7 yX7_setOff yX7_setOff, .methodLink RX7 113 yX7_setOff, .instanceMethod yX7_circleOf, .selects RX7 yX7_circleOf yX7_circleOf, .methodLink RX7 117 yX7_circleOf, .code yJ6_bitCount_0f7a4 cJ6_bitCount_0f7a4 1 (some .int), .constant RJ6 265 (1431655765), .constant RJ6 266 (858993459), .constant RJ6 267 (252645135), .initialized RJ6, .static yJ6_bitCount_0f7a4, .methodLink RX7 120 yJ6_bitCount_0f7a4] : List Cond) ++ wsX70)
set_option maxRecDepth 20000 in
theorem g_X7_quarrels_0 : GoodIn q_X7_quarrels (wsV RX7 70 RX7 yX7_has q_X7_has) := goodIn_app (goodIn_r _ [6, 4, 5, 3] (by decide +kernel) (by decide +kernel)) (goodIn_ca (goodIn_r (.code yX7_has cX7_has 2 (some .boolean) :: [.fieldLink RX7 11 "LeftArguments$Room" "cells" "[I"]) [1, 2] (by decide +kernel) (by decide +kernel)) (goodIn_sub (fun _ h => List.mem_cons_of_mem _ (List.mem_append_right _ h)) gwX7))
set_option maxRecDepth 20000 in
theorem g_X7_quarrels_1 : GoodIn q_X7_quarrels (wsV RX7 117 RX7 yX7_circleOf q_X7_circleOf) := goodIn_app (goodIn_r _ [22, 20, 21, 3] (by decide +kernel) (by decide +kernel)) (goodIn_ca (goodIn_r (.code yX7_circleOf cX7_circleOf 4 (some .int) :: [.code yX7_has cX7_has 2 (some .boolean), .fieldLink RX7 11 "LeftArguments$Room" "cells" "[I", .initialized RX7, .instanceMethod yX7_has, .selects RX7 yX7_has yX7_has, .methodLink RX7 70 yX7_has, .code yX7_setOff cX7_setOff 3 (some .boolean), .code yX7_of cX7_of 3 (some .int), .instanceMethod yX7_of, .selects RX7 yX7_of yX7_of, .methodLink RX7 74 yX7_of, .methodLink RX7 110 Lib.Math.abs.name, .static Lib.Math.abs.name, .initialized "java/lang/Math", .code Lib.Math.abs.name Lib.Math.abs.code 1 (some .int), .instanceMethod yX7_setOff, .selects RX7 yX7_setOff yX7_setOff, .methodLink RX7 113 yX7_setOff]) [7, 1, 2, 3, 4, 5, 6, 8, 9, 10, 11, 12, 13, 14, 15, 16, 17, 18, 19] (by decide +kernel) (by decide +kernel)) (goodIn_sub (fun _ h => List.mem_cons_of_mem _ (List.mem_append_right _ h)) gwX7))
set_option maxRecDepth 20000 in
theorem g_X7_quarrels_2 : GoodIn q_X7_quarrels (va_wsS RX7 120 yJ6_bitCount_0f7a4 q_J6_bitCount_0f7a4) := goodIn_app (goodIn_r _ [29, 28, 27] (by decide +kernel) (by decide +kernel)) (goodIn_r (.code yJ6_bitCount_0f7a4 cJ6_bitCount_0f7a4 1 (some .int) :: [.constant RJ6 265 (1431655765), .constant RJ6 266 (858993459), .constant RJ6 267 (252645135)]) [23, 24, 25, 26] (by decide +kernel) (by decide +kernel))
set_option maxHeartbeats 4000000 in
set_option maxRecDepth 100000 in
theorem k_X7_quarrels (l : Launch) (dC : Nat → ClassId) (dI : Nat → Nat → Nat) (h0 : Nat) (h1 : Nat) (r0 : Nat) (v0 : Int32) (v1 : Int32) (g0 : ClassId) (f2 : Nat → Int32) (sz : Nat) : Met l yX7_quarrels q_X7_quarrels ({ frames := 3, cells := 0, slots := 0, locals := 67 }) (va_Pc [.ref h0] (fun U => U.heap.size = sz ∧ va_P (dC, dI) vwCl [(h0, .inr (7, [.ref h1, .ref r0, .int v0, .int v1])), (h1, .inl (g0, 58, .inl f2))] U.heap ∧ va_K (dC, dI) vwCl [(g0, .int)] U ∧ va_D (fun _ => True) [(h0, .inr (7, [.ref h1, .ref r0, .int v0, .int v1])), (h1, .inl (g0, 58, .inl f2))])) (va_Qi (fun (r : Int32) (_ : Unit) => True) (fun (_ : Unit) (t : State) => va_P (dC, dI) vwCl [(h0, .inr (7, [.ref h1, .ref r0, .int v0, .int v1])), (h1, .inl (g0, 58, .inl f2))] t.heap ∧ va_K (dC, dI) vwCl [] t ∧ va_D (va_A [(h0, .inr (7, [.ref h1, .ref r0, .int v0, .int v1])), (h1, .inl (g0, 58, .inl f2))] sz) [(h0, .inr (7, [.ref h1, .ref r0, .int v0, .int v1])), (h1, .inl (g0, 58, .inl f2))]) (va_A [(h0, .inr (7, [.ref h1, .ref r0, .int v0, .int v1])), (h1, .inl (g0, 58, .inl f2))] sz)) 0 0 (va_A [(h0, .inr (7, [.ref h1, .ref r0, .int v0, .int v1])), (h1, .inl (g0, 58, .inl f2))] sz) := by
  refine Met.ofW (cc := cX7_quarrels) (maxL := 3) (ret := (some .int)) (by decide) rfl ?_
  intro p e s m args below meth c s₁ B hml hv
  obtain ⟨rfl, hsz, hP, hK, hD0⟩ := hv
  have hx := B.exec
  have hb := B.bytes
  have hr := B.returns
  have hts := atoms_spec (ws := q_X7_quarrels) B.pre
  have hown : s.vm.findClass RX7 = some m.cls := findClass_of_methodNamed B.named
  have hlocks := B.notSynchronized
  subst hsz
  have hD := hD0.self (sz := s.heap.size)
  generalize hAe : va_A [(h0, .inr (7, [.ref h1, .ref r0, .int v0, .int v1])), (h1, .inl (g0, 58, .inl f2))] s.heap.size = A at hD ⊢
  have hA : ∀ q : Nat, s.heap.size ≤ q → A q := fun q h => by rw [← hAe]; exact Or.inr h
  have hS : va_S A s.heap s.heap [] := va_S.rf
  generalize hQ : (MQ below _ _ s 0 0 A) = Q
  have hl := lv_entry ([.ref h0]) (n := 3) (Nat.le_of_ble_eq_true rfl)
  rw [lg_entry_eq]
  generalize (lg_sl ([.ref h0]) ++ List.replicate (3 - (lg_sl ([.ref h0])).length) Slot.unset).toArray = ls at hl ⊢
  have hl : lv_has ls 3 [(0, .ref h0)] := hl
  obtain ⟨H, hH⟩ : ∃ H : Heap, H = s.heap := ⟨_, rfl⟩
  obtain ⟨locs, hlocs⟩ : ∃ y : List Loc, y = [] := ⟨_, rfl⟩
  have hS : va_S A s.heap H locs := by rw [hH, hlocs]; exact va_S.rf
  have hP : va_P (dC, dI) vwCl [(h0, .inr (7, [.ref h1, .ref r0, .int v0, .int v1])), (h1, .inl (g0, 58, .inl f2))] H := by rw [hH]; exact hP
  rw [← hH, ← hlocs]
  refine lv_iconst (v := 0) hx hb dX7_quarrels_0 (by decide) ?_
  refine lv_istore_n (lv' := [(1, .int 0), (0, .ref h0)]) hx hb dX7_quarrels_1 rfl hl (by decide) rfl (fun ls hl => ?_)
  refine lv_iconst (v := 0) hx hb dX7_quarrels_2 (by decide) ?_
  refine lv_istore_n (lv' := [(2, .int 0), (1, .int 0), (0, .ref h0)]) hx hb dX7_quarrels_3 rfl hl (by decide) rfl (fun ls hl => ?_)
  have hL9 : ∀ (n9 : Nat), ∀ (x5 : Int32) (x6 : Int32) (H : Heap) (locs : List Loc) (ls : Array Slot), 0 ≤ x5.toInt → x5.toInt ≤ 8 → (8 - x5.toInt).toNat < n9 → va_P (dC, dI) vwCl [(h0, .inr (7, [.ref h1, .ref r0, .int v0, .int v1])), (h1, .inl (g0, 58, .inl f2))] H → va_D A [(h0, .inr (7, [.ref h1, .ref r0, .int v0, .int v1])), (h1, .inl (g0, 58, .inl f2))] → va_S A s.heap H locs → lv_has ls 3 [(2, .int x5), (1, .int x6), (0, .ref h0)] → W p l e ({ frames := 3, cells := 0, slots := 0, locals := 67 }) s m ([.ref h0] : List Value).toArray below meth c H locs 0 0 Q (F0 m 4 ls []) := by
    intro n9
    induction n9 with
    | zero => intro x5 x6 H locs ls q0_x5 q1_x5 hm9 hP hD hS hl; exact absurd hm9 (Nat.not_lt_zero _)
    | succ n9 ih =>
      intro x5 x6 H locs ls q0_x5 q1_x5 hm9 hP hD hS hl
      refine lv_iload_n hx hb dX7_quarrels_4 rfl (lv_at hl 0 rfl) ?_
      refine lv_bipush (v := 8) hx hb dX7_quarrels_5 (by decide) ?_
      refine lv_icmp_ge (tgt := 37) hx hb dX7_quarrels_7 (by decide) (fun c10 => ?_) (fun c10 => ?_)
      · skip
        have fc10 : 8 ≤ x5.toInt := Int32.le_iff_toInt_le.mp c10
        refine lv_iload_n hx hb dX7_quarrels_37 rfl (lv_at hl 1 rfl) ?_
        refine lv_iconst (v := 2) hx hb dX7_quarrels_38 (by decide) ?_
        refine lv_idiv hx hb dX7_quarrels_39 (by decide) ?_
        refine lv_topi (fun t11 et11 => ?_)
        subst hQ
        have hP9 := hP.sub (ws' := [(h0, .inr (7, [.ref h1, .ref r0, .int v0, .int v1])), (h1, .inl (g0, 58, .inl f2))]) [0, 1] rfl
        have hD9 := hD.sub (ws' := [(h0, .inr (7, [.ref h1, .ref r0, .int v0, .int v1])), (h1, .inl (g0, 58, .inl f2))]) [0, 1] (by decide) rfl
        have hK9 := hK.sub (tys' := []) [] rfl
        exact W.iret (v := t11) hx hb hr (fun t ht hW => ⟨⟨t11, (), rfl, trivial, by rw [ht]; exact hP9, va_K.moved hW.alike hK9, hD9⟩, hS.F ht⟩) hS.2.2 dX7_quarrels_40
      · skip
        have fc10 : ¬ (8 ≤ x5.toInt) := fun h9 => c10 (Int32.le_iff_toInt_le.mpr h9)
        refine lv_aload_n hx hb dX7_quarrels_10 rfl (lv_at hl 2 rfl) ?_
        refine lv_iload_n hx hb dX7_quarrels_11 rfl (lv_at hl 0 rfl) ?_
        have hPc := hP.sub (ws' := [(h0, .inr (7, [.ref h1, .ref r0, .int v0, .int v1])), (h1, .inl (g0, 58, .inl f2))]) [0, 1] rfl
        have hDc := hD.sub (ws' := [(h0, .inr (7, [.ref h1, .ref r0, .int v0, .int v1])), (h1, .inl (g0, 58, .inl f2))]) [0, 1] (by decide) rfl
        have hKc := hK.sub (tys' := [(g0, .int)]) [0] rfl
        have hFc := va_free (wc := [(h0, .inr (7, [.ref h1, .ref r0, .int v0, .int v1])), (h1, .inl (g0, 58, .inl f2))]) hD hS hA [0, 1] rfl
        refine va_calli (va_runV (As := [.int x5]) (rest := []) ⟨hx, hb, hml, hown, hts⟩ (k_X7_has l dC dI h0 h1 r0 v0 v1 g0 f2 x5  H.size) (cwV 1 hts g_X7_quarrels_0 rfl rfl rfl (by decide +kernel) ⟨Nat.le_of_ble_eq_true rfl, Nat.le_of_ble_eq_true rfl⟩) ⟨fun a U g mk q => by obtain ⟨q0, q1, qP, qK, qD⟩ := q; exact ⟨q0, q1, qP, va_K.moved (u := U) (U := U.calling g mk a) (Vm.Alike.refl U.vm) qK, qD⟩, va_recv hKc hPc (ci := 7) (q0 := 0) rfl rfl, fun U hU hW => ⟨rfl, by rw [hU], by rw [hU]; exact hPc, va_K.moved hW.alike hKc, hDc.weaken (fun _ _ _ _ => trivial)⟩⟩ rfl rfl hl.1 rfl (lv_room (Nat.le_of_ble_eq_true rfl)) dX7_quarrels_12 ⟨Nat.le_of_ble_eq_true rfl, Nat.le_of_ble_eq_true rfl⟩) hS (fun q _ h => hFc q h) hFc (fun ra12 u t H1 locs ht hvm hwra12 hB hz1 hk1 hS => ?_)
        obtain ⟨hP1, hK1, hD1⟩ := hB
        rw [ht] at hP1
        obtain ⟨hP, hD⟩ := va_join (wr := []) (w1 := [(h0, .inr (7, [.ref h1, .ref r0, .int v0, .int v1])), (h1, .inl (g0, 58, .inl f2))]) hP hD [0, 1] [] rfl rfl (by decide) (by decide) hk1 hFc hP1 hD1
        generalize H1 = H at hP hS ⊢
        have hP : va_P (dC, dI) vwCl [(h0, .inr (7, [.ref h1, .ref r0, .int v0, .int v1])), (h1, .inl (g0, 58, .inl f2))] H := hP
        have hD : va_D A [(h0, .inr (7, [.ref h1, .ref r0, .int v0, .int v1])), (h1, .inl (g0, 58, .inl f2))] := hD
        obtain ⟨wa_ra12, wb_ra12⟩ := hwra12
        have wa_ra12 : 0 ≤ ra12.toInt := wa_ra12
        have wb_ra12 : ra12.toInt ≤ 1 := wb_ra12
        have hJ14 : ∀ (x13 : Int32) (H : Heap) (locs : List Loc) (ls : Array Slot), va_P (dC, dI) vwCl [(h0, .inr (7, [.ref h1, .ref r0, .int v0, .int v1])), (h1, .inl (g0, 58, .inl f2))] H → va_D A [(h0, .inr (7, [.ref h1, .ref r0, .int v0, .int v1])), (h1, .inl (g0, 58, .inl f2))] → va_S A s.heap H locs → lv_has ls 3 [(2, .int x5), (1, .int x13), (0, .ref h0)] → W p l e ({ frames := 3, cells := 0, slots := 0, locals := 67 }) s m ([.ref h0] : List Value).toArray below meth c H locs 0 0 Q (F0 m 31 ls []) := by
          intro x13 H locs ls hP hD hS hl
          obtain ⟨t15, et15⟩ : ∃ y : Int32, y = x5 + 1 := ⟨_, rfl⟩
          have gt15 : t15.toInt = x5.toInt + (1) := pv_add (a := x5.toInt) (b := (1)) et15 rfl (by decide) (by omega) (by omega)
          refine lv_iinc (v := t15) (lv' := [(2, .int t15), (1, .int x13), (0, .ref h0)]) hx hb dX7_quarrels_31 hl (k := 0) rfl (by rw [et15]; rfl) (by decide) rfl (fun ls hl => ?_)
          refine lv_goto (tgt := 4) hx hb dX7_quarrels_34 (by decide) ?_
          exact ih t15 x13 H locs ls (by first | omega | decide) (by first | omega | decide) (by first | omega | (simp only [Int.toNat] at *; omega)) hP hD hS (lv_sub hl [0, 1, 2] rfl)
        refine lv_if_eq (tgt := 31) hx hb dX7_quarrels_15 (by decide) (fun c16 => ?_) (fun c16 => ?_)
        · skip
          have fc16 : ra12.toInt = 0 := congrArg Int32.toInt c16
          exact hJ14 x6 H locs ls hP hD hS (lv_sub hl [0, 1, 2] rfl)
        · skip
          have fc16 : ¬ (ra12.toInt = 0) := fun h9 => c16 (Int32.toInt_inj.mp h9)
          refine lv_iload_n hx hb dX7_quarrels_18 rfl (lv_at hl 1 rfl) ?_
          refine lv_aload_n hx hb dX7_quarrels_19 rfl (lv_at hl 2 rfl) ?_
          refine lv_iload_n hx hb dX7_quarrels_20 rfl (lv_at hl 0 rfl) ?_
          have hPc := hP.sub (ws' := [(h0, .inr (7, [.ref h1, .ref r0, .int v0, .int v1])), (h1, .inl (g0, 58, .inl f2))]) [0, 1] rfl
          have hDc := hD.sub (ws' := [(h0, .inr (7, [.ref h1, .ref r0, .int v0, .int v1])), (h1, .inl (g0, 58, .inl f2))]) [0, 1] (by decide) rfl
          have hKc := hK.sub (tys' := [(g0, .int)]) [0] rfl
          have hFc := va_free (wc := [(h0, .inr (7, [.ref h1, .ref r0, .int v0, .int v1])), (h1, .inl (g0, 58, .inl f2))]) hD hS hA [0, 1] rfl
          refine va_calli (va_runV (As := [.int x5]) (rest := [.int x6]) ⟨hx, hb, hml, hown, hts⟩ (k_X7_circleOf l dC dI h0 h1 r0 v0 v1 g0 f2 x5  H.size) (cwV 1 hts g_X7_quarrels_1 rfl rfl rfl (by decide +kernel) ⟨Nat.le_of_ble_eq_true rfl, Nat.le_of_ble_eq_true rfl⟩) ⟨fun a U g mk q => by obtain ⟨q0, q1, qP, qK, qD⟩ := q; exact ⟨q0, q1, qP, va_K.moved (u := U) (U := U.calling g mk a) (Vm.Alike.refl U.vm) qK, qD⟩, va_recv hKc hPc (ci := 7) (q0 := 0) rfl rfl, fun U hU hW => ⟨rfl, by rw [hU], by rw [hU]; exact hPc, va_K.moved hW.alike hKc, hDc.weaken (fun _ _ _ _ => trivial)⟩⟩ rfl rfl hl.1 rfl (lv_room (Nat.le_of_ble_eq_true rfl)) dX7_quarrels_21 ⟨Nat.le_of_ble_eq_true rfl, Nat.le_of_ble_eq_true rfl⟩) hS (fun q _ h => hFc q h) hFc (fun ra17 u t H1 locs ht hvm hwra17 hB hz1 hk1 hS => ?_)
          obtain ⟨hP1, hK1, hD1⟩ := hB
          rw [ht] at hP1
          obtain ⟨hP, hD⟩ := va_join (wr := []) (w1 := [(h0, .inr (7, [.ref h1, .ref r0, .int v0, .int v1])), (h1, .inl (g0, 58, .inl f2))]) hP hD [0, 1] [] rfl rfl (by decide) (by decide) hk1 hFc hP1 hD1
          generalize H1 = H at hP hS ⊢
          have hP : va_P (dC, dI) vwCl [(h0, .inr (7, [.ref h1, .ref r0, .int v0, .int v1])), (h1, .inl (g0, 58, .inl f2))] H := hP
          have hD : va_D A [(h0, .inr (7, [.ref h1, .ref r0, .int v0, .int v1])), (h1, .inl (g0, 58, .inl f2))] := hD
          have hPc := hP.sub (ws' := []) [] rfl
          have hDc := hD.sub (ws' := []) [] (by decide) rfl
          have hKc := hK.sub (tys' := []) [] rfl
          have hFc := va_free (wc := []) hD hS hA [] rfl
          refine va_calli (va_runS (As := [.int ra17]) (rest := [.int x6]) ⟨hx, hb, hml, hown, hts⟩ (k_J6_bitCount_0f7a4 l dC dI ra17  H.size) (va_cwS 1 hts g_X7_quarrels_2 rfl rfl rfl (by decide +kernel) ⟨Nat.le_of_ble_eq_true rfl, Nat.le_of_ble_eq_true rfl⟩) ⟨fun a U g mk q => by obtain ⟨q0, q1, qP, qK, qD⟩ := q; exact ⟨q0, q1, qP, va_K.moved (u := U) (U := U.calling g mk a) (Vm.Alike.refl U.vm) qK, qD⟩, fun U hU hW => ⟨rfl, by rw [hU], by rw [hU]; exact hPc, va_K.moved hW.alike hKc, hDc.weaken (fun _ _ _ _ => trivial)⟩⟩ rfl rfl hl.1 rfl (lv_room (Nat.le_of_ble_eq_true rfl)) dX7_quarrels_24 ⟨Nat.le_of_ble_eq_true rfl, Nat.le_of_ble_eq_true rfl⟩) hS (fun q _ h => hFc q h) hFc (fun ra18 u t H1 locs ht hvm hwra18 hB hz1 hk1 hS => ?_)
          obtain ⟨hP1, hK1, hD1⟩ := hB
          rw [ht] at hP1
          obtain ⟨hP, hD⟩ := va_join (wr := [(h0, .inr (7, [.ref h1, .ref r0, .int v0, .int v1])), (h1, .inl (g0, 58, .inl f2))]) (w1 := []) hP hD [] [0, 1] rfl rfl (by decide) (by decide) hk1 hFc hP1 hD1
          generalize H1 = H at hP hS ⊢
          have hP : va_P (dC, dI) vwCl [(h0, .inr (7, [.ref h1, .ref r0, .int v0, .int v1])), (h1, .inl (g0, 58, .inl f2))] H := hP
          have hD : va_D A [(h0, .inr (7, [.ref h1, .ref r0, .int v0, .int v1])), (h1, .inl (g0, 58, .inl f2))] := hD
          obtain ⟨wa_ra18, wb_ra18⟩ := hwra18
          have wa_ra18 : 0 ≤ ra18.toInt := wa_ra18
          have wb_ra18 : ra18.toInt ≤ 63 := wb_ra18
          refine lv_iconst (v := 1) hx hb dX7_quarrels_27 (by decide) ?_
          refine lv_isub hx hb dX7_quarrels_28 ?_
          refine lv_topi (fun t19 et19 => ?_)
          have gt19 : t19.toInt = ra18.toInt - 1 := pv_sub (a := ra18.toInt) (b := 1) et19 rfl (by decide) (by omega) (by omega)
          refine lv_iadd hx hb dX7_quarrels_29 ?_
          refine lv_topi (fun t20 et20 => ?_)
          refine lv_istore_n (lv' := [(1, .int t20), (2, .int x5), (0, .ref h0)]) hx hb dX7_quarrels_30 rfl hl (by decide) rfl (fun ls hl => ?_)
          exact hJ14 t20 H locs ls hP hD hS (lv_sub hl [1, 0, 2] rfl)
  exact hL9 _ 0 0 H locs ls (by first | omega | decide) (by first | omega | decide) (Nat.lt_succ_self _) hP hD hS (lv_sub hl [0, 1, 2] rfl)
