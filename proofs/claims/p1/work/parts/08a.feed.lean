def q_X10_signsIn : List Cond := .code yX10_signsIn cX10_signsIn 3 (some .int) :: (([] : List Cond))
set_option maxHeartbeats 4000000 in
set_option maxRecDepth 100000 in
theorem k_X10_signsIn (l : Launch) (dC : Nat → ClassId) (dI : Nat → Nat → Nat) (v0 : Int32) (sz : Nat) : Met l yX10_signsIn q_X10_signsIn ({ frames := 0, cells := 0, slots := 0, locals := 0 }) (va_Pc [.int v0] (fun U => U.heap.size = sz ∧ va_P (dC, dI) vwCl [] U.heap ∧ va_K (dC, dI) vwCl [] U ∧ va_D (fun _ => True) [])) (va_Qi (fun (r : Int32) (_ : Unit) => r = (nI (pv_b4 v0 0))) (fun (_ : Unit) (t : State) => va_P (dC, dI) vwCl [] t.heap ∧ va_K (dC, dI) vwCl [] t ∧ va_D (va_A [] sz) []) (va_A [] sz)) 0 0 (va_A [] sz) := by
  refine Met.ofW (cc := cX10_signsIn) (maxL := 3) (ret := (some .int)) (by decide) rfl ?_
  intro p e s m args below meth c s₁ B hml hv
  obtain ⟨rfl, hsz, hP, hK, hD0⟩ := hv
  have hx := B.exec
  have hb := B.bytes
  have hr := B.returns
  have hts := atoms_spec (ws := q_X10_signsIn) B.pre
  have hown : s.vm.findClass RX10 = some m.cls := findClass_of_methodNamed B.named
  have hlocks := B.notSynchronized
  subst hsz
  have hD := hD0.self (sz := s.heap.size)
  generalize hAe : va_A [] s.heap.size = A at hD ⊢
  have hA : ∀ q : Nat, s.heap.size ≤ q → A q := fun q h => by rw [← hAe]; exact Or.inr h
  have hS : va_S A s.heap s.heap [] := va_S.rf
  have hl := lv_entry ([.int v0]) (n := 3) (Nat.le_of_ble_eq_true rfl)
  rw [lg_entry_eq]
  generalize (lg_sl ([.int v0]) ++ List.replicate (3 - (lg_sl ([.int v0])).length) Slot.unset).toArray = ls at hl ⊢
  have hl : lv_has ls 3 [(0, .int v0)] := hl
  refine lv_iconst (v := 0) hx hb dX10_signsIn_0 (by decide) ?_
  refine lv_istore_n (lv' := [(1, .int 0), (0, .int v0)]) hx hb dX10_signsIn_1 rfl hl (by decide) rfl (fun ls hl => ?_)
  refine lv_bipush (v := 24) hx hb dX10_signsIn_2 (by decide) ?_
  refine lv_istore_n (lv' := [(2, .int 24), (1, .int 0), (0, .int v0)]) hx hb dX10_signsIn_4 rfl hl (by decide) rfl (fun ls hl => ?_)
  refine lv_iload_n hx hb dX10_signsIn_5 rfl (lv_at hl 0 rfl) ?_
  refine lv_if_lt (tgt := 28) hx hb dX10_signsIn_6 (by decide) (fun c => absurd c (by decide)) (fun _ => ?_)
  refine lv_iload_n hx hb dX10_signsIn_9 rfl (lv_at hl 2 rfl) ?_
  refine lv_iload_n hx hb dX10_signsIn_10 rfl (lv_at hl 0 rfl) ?_
  refine lv_iushr (v := (v0.toUInt32 >>> ((24 : Int32).toUInt32 &&& Int32.toUInt32 31)).toInt32) hx hb dX10_signsIn_11 rfl ?_
  refine lv_sipush (v := 255) hx hb dX10_signsIn_12 (by decide) ?_
  refine lv_iand hx hb dX10_signsIn_15 ?_
  refine lv_if_eq (tgt := 22) hx hb dX10_signsIn_16 (by decide) (fun c1 => ?_) (fun c1 => ?_)
  · skip
    refine lv_iinc (v := 16) (lv' := [(2, .int 16), (1, .int 0), (0, .int v0)]) hx hb dX10_signsIn_22 hl (k := 0) rfl (by decide) (by decide) rfl (fun ls hl => ?_)
    refine lv_goto (tgt := 5) hx hb dX10_signsIn_25 (by decide) ?_
    refine lv_iload_n hx hb dX10_signsIn_5 rfl (lv_at hl 0 rfl) ?_
    refine lv_if_lt (tgt := 28) hx hb dX10_signsIn_6 (by decide) (fun c => absurd c (by decide)) (fun _ => ?_)
    refine lv_iload_n hx hb dX10_signsIn_9 rfl (lv_at hl 2 rfl) ?_
    refine lv_iload_n hx hb dX10_signsIn_10 rfl (lv_at hl 0 rfl) ?_
    refine lv_iushr (v := (v0.toUInt32 >>> ((16 : Int32).toUInt32 &&& Int32.toUInt32 31)).toInt32) hx hb dX10_signsIn_11 rfl ?_
    refine lv_sipush (v := 255) hx hb dX10_signsIn_12 (by decide) ?_
    refine lv_iand hx hb dX10_signsIn_15 ?_
    refine lv_if_eq (tgt := 22) hx hb dX10_signsIn_16 (by decide) (fun c2 => ?_) (fun c2 => ?_)
    · skip
      refine lv_iinc (v := 8) (lv' := [(2, .int 8), (1, .int 0), (0, .int v0)]) hx hb dX10_signsIn_22 hl (k := 0) rfl (by decide) (by decide) rfl (fun ls hl => ?_)
      refine lv_goto (tgt := 5) hx hb dX10_signsIn_25 (by decide) ?_
      refine lv_iload_n hx hb dX10_signsIn_5 rfl (lv_at hl 0 rfl) ?_
      refine lv_if_lt (tgt := 28) hx hb dX10_signsIn_6 (by decide) (fun c => absurd c (by decide)) (fun _ => ?_)
      refine lv_iload_n hx hb dX10_signsIn_9 rfl (lv_at hl 2 rfl) ?_
      refine lv_iload_n hx hb dX10_signsIn_10 rfl (lv_at hl 0 rfl) ?_
      refine lv_iushr (v := (v0.toUInt32 >>> ((8 : Int32).toUInt32 &&& Int32.toUInt32 31)).toInt32) hx hb dX10_signsIn_11 rfl ?_
      refine lv_sipush (v := 255) hx hb dX10_signsIn_12 (by decide) ?_
      refine lv_iand hx hb dX10_signsIn_15 ?_
      refine lv_if_eq (tgt := 22) hx hb dX10_signsIn_16 (by decide) (fun c3 => ?_) (fun c3 => ?_)
      · skip
        refine lv_iinc (v := 0) (lv' := [(2, .int 0), (1, .int 0), (0, .int v0)]) hx hb dX10_signsIn_22 hl (k := 0) rfl (by decide) (by decide) rfl (fun ls hl => ?_)
        refine lv_goto (tgt := 5) hx hb dX10_signsIn_25 (by decide) ?_
        refine lv_iload_n hx hb dX10_signsIn_5 rfl (lv_at hl 0 rfl) ?_
        refine lv_if_lt (tgt := 28) hx hb dX10_signsIn_6 (by decide) (fun c => absurd c (by decide)) (fun _ => ?_)
        refine lv_iload_n hx hb dX10_signsIn_9 rfl (lv_at hl 2 rfl) ?_
        refine lv_iload_n hx hb dX10_signsIn_10 rfl (lv_at hl 0 rfl) ?_
        refine lv_iushr (v := (v0.toUInt32 >>> ((0 : Int32).toUInt32 &&& Int32.toUInt32 31)).toInt32) hx hb dX10_signsIn_11 rfl ?_
        refine lv_sipush (v := 255) hx hb dX10_signsIn_12 (by decide) ?_
        refine lv_iand hx hb dX10_signsIn_15 ?_
        refine lv_if_eq (tgt := 22) hx hb dX10_signsIn_16 (by decide) (fun c4 => ?_) (fun c4 => ?_)
        · skip
          refine lv_iinc (v := (-8)) (lv' := [(2, .int (-8)), (1, .int 0), (0, .int v0)]) hx hb dX10_signsIn_22 hl (k := 0) rfl (by decide) (by decide) rfl (fun ls hl => ?_)
          refine lv_goto (tgt := 5) hx hb dX10_signsIn_25 (by decide) ?_
          refine lv_iload_n hx hb dX10_signsIn_5 rfl (lv_at hl 0 rfl) ?_
          refine lv_if_lt (tgt := 28) hx hb dX10_signsIn_6 (by decide) (fun _ => ?_) (fun c => absurd (by decide) c)
          refine lv_iload_n hx hb dX10_signsIn_28 rfl (lv_at hl 1 rfl) ?_
          have hP9 := hP.sub (ws' := []) [] rfl
          have hD9 := hD.sub (ws' := []) [] (by decide) rfl
          have hK9 := hK.sub (tys' := []) [] rfl
          exact W.iret (v := 0) hx hb hr (fun t ht hW => ⟨⟨0, (), rfl, by (rw [pv_b4, pv_1_z (x := pv_u 24 v0) _ c1, pv_1_z (x := pv_u 16 v0) _ c2, pv_1_z (x := pv_u 8 v0) _ c3, pv_1_z (x := pv_u 0 v0) _ c4]; try rfl), by rw [ht]; exact hP9, va_K.moved hW.alike hK9, hD9⟩, hS.F ht⟩) hS.2.2 dX10_signsIn_29
        · skip
          refine lv_iinc (v := 1) (lv' := [(1, .int 1), (2, .int 0), (0, .int v0)]) hx hb dX10_signsIn_19 hl (k := 1) rfl (by decide) (by decide) rfl (fun ls hl => ?_)
          refine lv_iinc (v := (-8)) (lv' := [(2, .int (-8)), (1, .int 1), (0, .int v0)]) hx hb dX10_signsIn_22 hl (k := 1) rfl (by decide) (by decide) rfl (fun ls hl => ?_)
          refine lv_goto (tgt := 5) hx hb dX10_signsIn_25 (by decide) ?_
          refine lv_iload_n hx hb dX10_signsIn_5 rfl (lv_at hl 0 rfl) ?_
          refine lv_if_lt (tgt := 28) hx hb dX10_signsIn_6 (by decide) (fun _ => ?_) (fun c => absurd (by decide) c)
          refine lv_iload_n hx hb dX10_signsIn_28 rfl (lv_at hl 1 rfl) ?_
          have hP9 := hP.sub (ws' := []) [] rfl
          have hD9 := hD.sub (ws' := []) [] (by decide) rfl
          have hK9 := hK.sub (tys' := []) [] rfl
          exact W.iret (v := 1) hx hb hr (fun t ht hW => ⟨⟨1, (), rfl, by (rw [pv_b4, pv_1_z (x := pv_u 24 v0) _ c1, pv_1_z (x := pv_u 16 v0) _ c2, pv_1_z (x := pv_u 8 v0) _ c3, pv_1_s (x := pv_u 0 v0) _ c4]; try rfl), by rw [ht]; exact hP9, va_K.moved hW.alike hK9, hD9⟩, hS.F ht⟩) hS.2.2 dX10_signsIn_29
      · skip
        refine lv_iinc (v := 1) (lv' := [(1, .int 1), (2, .int 8), (0, .int v0)]) hx hb dX10_signsIn_19 hl (k := 1) rfl (by decide) (by decide) rfl (fun ls hl => ?_)
        refine lv_iinc (v := 0) (lv' := [(2, .int 0), (1, .int 1), (0, .int v0)]) hx hb dX10_signsIn_22 hl (k := 1) rfl (by decide) (by decide) rfl (fun ls hl => ?_)
        refine lv_goto (tgt := 5) hx hb dX10_signsIn_25 (by decide) ?_
        refine lv_iload_n hx hb dX10_signsIn_5 rfl (lv_at hl 0 rfl) ?_
        refine lv_if_lt (tgt := 28) hx hb dX10_signsIn_6 (by decide) (fun c => absurd c (by decide)) (fun _ => ?_)
        refine lv_iload_n hx hb dX10_signsIn_9 rfl (lv_at hl 2 rfl) ?_
        refine lv_iload_n hx hb dX10_signsIn_10 rfl (lv_at hl 0 rfl) ?_
        refine lv_iushr (v := (v0.toUInt32 >>> ((0 : Int32).toUInt32 &&& Int32.toUInt32 31)).toInt32) hx hb dX10_signsIn_11 rfl ?_
        refine lv_sipush (v := 255) hx hb dX10_signsIn_12 (by decide) ?_
        refine lv_iand hx hb dX10_signsIn_15 ?_
        refine lv_if_eq (tgt := 22) hx hb dX10_signsIn_16 (by decide) (fun c5 => ?_) (fun c5 => ?_)
        · skip
          refine lv_iinc (v := (-8)) (lv' := [(2, .int (-8)), (1, .int 1), (0, .int v0)]) hx hb dX10_signsIn_22 hl (k := 0) rfl (by decide) (by decide) rfl (fun ls hl => ?_)
          refine lv_goto (tgt := 5) hx hb dX10_signsIn_25 (by decide) ?_
          refine lv_iload_n hx hb dX10_signsIn_5 rfl (lv_at hl 0 rfl) ?_
          refine lv_if_lt (tgt := 28) hx hb dX10_signsIn_6 (by decide) (fun _ => ?_) (fun c => absurd (by decide) c)
          refine lv_iload_n hx hb dX10_signsIn_28 rfl (lv_at hl 1 rfl) ?_
          have hP9 := hP.sub (ws' := []) [] rfl
          have hD9 := hD.sub (ws' := []) [] (by decide) rfl
          have hK9 := hK.sub (tys' := []) [] rfl
          exact W.iret (v := 1) hx hb hr (fun t ht hW => ⟨⟨1, (), rfl, by (rw [pv_b4, pv_1_z (x := pv_u 24 v0) _ c1, pv_1_z (x := pv_u 16 v0) _ c2, pv_1_s (x := pv_u 8 v0) _ c3, pv_1_z (x := pv_u 0 v0) _ c5]; try rfl), by rw [ht]; exact hP9, va_K.moved hW.alike hK9, hD9⟩, hS.F ht⟩) hS.2.2 dX10_signsIn_29
        · skip
          refine lv_iinc (v := 2) (lv' := [(1, .int 2), (2, .int 0), (0, .int v0)]) hx hb dX10_signsIn_19 hl (k := 1) rfl (by decide) (by decide) rfl (fun ls hl => ?_)
          refine lv_iinc (v := (-8)) (lv' := [(2, .int (-8)), (1, .int 2), (0, .int v0)]) hx hb dX10_signsIn_22 hl (k := 1) rfl (by decide) (by decide) rfl (fun ls hl => ?_)
          refine lv_goto (tgt := 5) hx hb dX10_signsIn_25 (by decide) ?_
          refine lv_iload_n hx hb dX10_signsIn_5 rfl (lv_at hl 0 rfl) ?_
          refine lv_if_lt (tgt := 28) hx hb dX10_signsIn_6 (by decide) (fun _ => ?_) (fun c => absurd (by decide) c)
          refine lv_iload_n hx hb dX10_signsIn_28 rfl (lv_at hl 1 rfl) ?_
          have hP9 := hP.sub (ws' := []) [] rfl
          have hD9 := hD.sub (ws' := []) [] (by decide) rfl
          have hK9 := hK.sub (tys' := []) [] rfl
          exact W.iret (v := 2) hx hb hr (fun t ht hW => ⟨⟨2, (), rfl, by (rw [pv_b4, pv_1_z (x := pv_u 24 v0) _ c1, pv_1_z (x := pv_u 16 v0) _ c2, pv_1_s (x := pv_u 8 v0) _ c3, pv_1_s (x := pv_u 0 v0) _ c5]; try rfl), by rw [ht]; exact hP9, va_K.moved hW.alike hK9, hD9⟩, hS.F ht⟩) hS.2.2 dX10_signsIn_29
    · skip
      refine lv_iinc (v := 1) (lv' := [(1, .int 1), (2, .int 16), (0, .int v0)]) hx hb dX10_signsIn_19 hl (k := 1) rfl (by decide) (by decide) rfl (fun ls hl => ?_)
      refine lv_iinc (v := 8) (lv' := [(2, .int 8), (1, .int 1), (0, .int v0)]) hx hb dX10_signsIn_22 hl (k := 1) rfl (by decide) (by decide) rfl (fun ls hl => ?_)
      refine lv_goto (tgt := 5) hx hb dX10_signsIn_25 (by decide) ?_
      refine lv_iload_n hx hb dX10_signsIn_5 rfl (lv_at hl 0 rfl) ?_
      refine lv_if_lt (tgt := 28) hx hb dX10_signsIn_6 (by decide) (fun c => absurd c (by decide)) (fun _ => ?_)
      refine lv_iload_n hx hb dX10_signsIn_9 rfl (lv_at hl 2 rfl) ?_
      refine lv_iload_n hx hb dX10_signsIn_10 rfl (lv_at hl 0 rfl) ?_
      refine lv_iushr (v := (v0.toUInt32 >>> ((8 : Int32).toUInt32 &&& Int32.toUInt32 31)).toInt32) hx hb dX10_signsIn_11 rfl ?_
      refine lv_sipush (v := 255) hx hb dX10_signsIn_12 (by decide) ?_
      refine lv_iand hx hb dX10_signsIn_15 ?_
      refine lv_if_eq (tgt := 22) hx hb dX10_signsIn_16 (by decide) (fun c6 => ?_) (fun c6 => ?_)
      · skip
        refine lv_iinc (v := 0) (lv' := [(2, .int 0), (1, .int 1), (0, .int v0)]) hx hb dX10_signsIn_22 hl (k := 0) rfl (by decide) (by decide) rfl (fun ls hl => ?_)
        refine lv_goto (tgt := 5) hx hb dX10_signsIn_25 (by decide) ?_
        refine lv_iload_n hx hb dX10_signsIn_5 rfl (lv_at hl 0 rfl) ?_
        refine lv_if_lt (tgt := 28) hx hb dX10_signsIn_6 (by decide) (fun c => absurd c (by decide)) (fun _ => ?_)
        refine lv_iload_n hx hb dX10_signsIn_9 rfl (lv_at hl 2 rfl) ?_
        refine lv_iload_n hx hb dX10_signsIn_10 rfl (lv_at hl 0 rfl) ?_
        refine lv_iushr (v := (v0.toUInt32 >>> ((0 : Int32).toUInt32 &&& Int32.toUInt32 31)).toInt32) hx hb dX10_signsIn_11 rfl ?_
        refine lv_sipush (v := 255) hx hb dX10_signsIn_12 (by decide) ?_
        refine lv_iand hx hb dX10_signsIn_15 ?_
        refine lv_if_eq (tgt := 22) hx hb dX10_signsIn_16 (by decide) (fun c7 => ?_) (fun c7 => ?_)
        · skip
          refine lv_iinc (v := (-8)) (lv' := [(2, .int (-8)), (1, .int 1), (0, .int v0)]) hx hb dX10_signsIn_22 hl (k := 0) rfl (by decide) (by decide) rfl (fun ls hl => ?_)
          refine lv_goto (tgt := 5) hx hb dX10_signsIn_25 (by decide) ?_
          refine lv_iload_n hx hb dX10_signsIn_5 rfl (lv_at hl 0 rfl) ?_
          refine lv_if_lt (tgt := 28) hx hb dX10_signsIn_6 (by decide) (fun _ => ?_) (fun c => absurd (by decide) c)
          refine lv_iload_n hx hb dX10_signsIn_28 rfl (lv_at hl 1 rfl) ?_
          have hP9 := hP.sub (ws' := []) [] rfl
          have hD9 := hD.sub (ws' := []) [] (by decide) rfl
          have hK9 := hK.sub (tys' := []) [] rfl
          exact W.iret (v := 1) hx hb hr (fun t ht hW => ⟨⟨1, (), rfl, by (rw [pv_b4, pv_1_z (x := pv_u 24 v0) _ c1, pv_1_s (x := pv_u 16 v0) _ c2, pv_1_z (x := pv_u 8 v0) _ c6, pv_1_z (x := pv_u 0 v0) _ c7]; try rfl), by rw [ht]; exact hP9, va_K.moved hW.alike hK9, hD9⟩, hS.F ht⟩) hS.2.2 dX10_signsIn_29
        · skip
          refine lv_iinc (v := 2) (lv' := [(1, .int 2), (2, .int 0), (0, .int v0)]) hx hb dX10_signsIn_19 hl (k := 1) rfl (by decide) (by decide) rfl (fun ls hl => ?_)
          refine lv_iinc (v := (-8)) (lv' := [(2, .int (-8)), (1, .int 2), (0, .int v0)]) hx hb dX10_signsIn_22 hl (k := 1) rfl (by decide) (by decide) rfl (fun ls hl => ?_)
          refine lv_goto (tgt := 5) hx hb dX10_signsIn_25 (by decide) ?_
          refine lv_iload_n hx hb dX10_signsIn_5 rfl (lv_at hl 0 rfl) ?_
          refine lv_if_lt (tgt := 28) hx hb dX10_signsIn_6 (by decide) (fun _ => ?_) (fun c => absurd (by decide) c)
          refine lv_iload_n hx hb dX10_signsIn_28 rfl (lv_at hl 1 rfl) ?_
          have hP9 := hP.sub (ws' := []) [] rfl
          have hD9 := hD.sub (ws' := []) [] (by decide) rfl
          have hK9 := hK.sub (tys' := []) [] rfl
          exact W.iret (v := 2) hx hb hr (fun t ht hW => ⟨⟨2, (), rfl, by (rw [pv_b4, pv_1_z (x := pv_u 24 v0) _ c1, pv_1_s (x := pv_u 16 v0) _ c2, pv_1_z (x := pv_u 8 v0) _ c6, pv_1_s (x := pv_u 0 v0) _ c7]; try rfl), by rw [ht]; exact hP9, va_K.moved hW.alike hK9, hD9⟩, hS.F ht⟩) hS.2.2 dX10_signsIn_29
      · skip
        refine lv_iinc (v := 2) (lv' := [(1, .int 2), (2, .int 8), (0, .int v0)]) hx hb dX10_signsIn_19 hl (k := 1) rfl (by decide) (by decide) rfl (fun ls hl => ?_)
        refine lv_iinc (v := 0) (lv' := [(2, .int 0), (1, .int 2), (0, .int v0)]) hx hb dX10_signsIn_22 hl (k := 1) rfl (by decide) (by decide) rfl (fun ls hl => ?_)
        refine lv_goto (tgt := 5) hx hb dX10_signsIn_25 (by decide) ?_
        refine lv_iload_n hx hb dX10_signsIn_5 rfl (lv_at hl 0 rfl) ?_
        refine lv_if_lt (tgt := 28) hx hb dX10_signsIn_6 (by decide) (fun c => absurd c (by decide)) (fun _ => ?_)
        refine lv_iload_n hx hb dX10_signsIn_9 rfl (lv_at hl 2 rfl) ?_
        refine lv_iload_n hx hb dX10_signsIn_10 rfl (lv_at hl 0 rfl) ?_
        refine lv_iushr (v := (v0.toUInt32 >>> ((0 : Int32).toUInt32 &&& Int32.toUInt32 31)).toInt32) hx hb dX10_signsIn_11 rfl ?_
        refine lv_sipush (v := 255) hx hb dX10_signsIn_12 (by decide) ?_
        refine lv_iand hx hb dX10_signsIn_15 ?_
        refine lv_if_eq (tgt := 22) hx hb dX10_signsIn_16 (by decide) (fun c8 => ?_) (fun c8 => ?_)
        · skip
          refine lv_iinc (v := (-8)) (lv' := [(2, .int (-8)), (1, .int 2), (0, .int v0)]) hx hb dX10_signsIn_22 hl (k := 0) rfl (by decide) (by decide) rfl (fun ls hl => ?_)
          refine lv_goto (tgt := 5) hx hb dX10_signsIn_25 (by decide) ?_
          refine lv_iload_n hx hb dX10_signsIn_5 rfl (lv_at hl 0 rfl) ?_
          refine lv_if_lt (tgt := 28) hx hb dX10_signsIn_6 (by decide) (fun _ => ?_) (fun c => absurd (by decide) c)
          refine lv_iload_n hx hb dX10_signsIn_28 rfl (lv_at hl 1 rfl) ?_
          have hP9 := hP.sub (ws' := []) [] rfl
          have hD9 := hD.sub (ws' := []) [] (by decide) rfl
          have hK9 := hK.sub (tys' := []) [] rfl
          exact W.iret (v := 2) hx hb hr (fun t ht hW => ⟨⟨2, (), rfl, by (rw [pv_b4, pv_1_z (x := pv_u 24 v0) _ c1, pv_1_s (x := pv_u 16 v0) _ c2, pv_1_s (x := pv_u 8 v0) _ c6, pv_1_z (x := pv_u 0 v0) _ c8]; try rfl), by rw [ht]; exact hP9, va_K.moved hW.alike hK9, hD9⟩, hS.F ht⟩) hS.2.2 dX10_signsIn_29
        · skip
          refine lv_iinc (v := 3) (lv' := [(1, .int 3), (2, .int 0), (0, .int v0)]) hx hb dX10_signsIn_19 hl (k := 1) rfl (by decide) (by decide) rfl (fun ls hl => ?_)
          refine lv_iinc (v := (-8)) (lv' := [(2, .int (-8)), (1, .int 3), (0, .int v0)]) hx hb dX10_signsIn_22 hl (k := 1) rfl (by decide) (by decide) rfl (fun ls hl => ?_)
          refine lv_goto (tgt := 5) hx hb dX10_signsIn_25 (by decide) ?_
          refine lv_iload_n hx hb dX10_signsIn_5 rfl (lv_at hl 0 rfl) ?_
          refine lv_if_lt (tgt := 28) hx hb dX10_signsIn_6 (by decide) (fun _ => ?_) (fun c => absurd (by decide) c)
          refine lv_iload_n hx hb dX10_signsIn_28 rfl (lv_at hl 1 rfl) ?_
          have hP9 := hP.sub (ws' := []) [] rfl
          have hD9 := hD.sub (ws' := []) [] (by decide) rfl
          have hK9 := hK.sub (tys' := []) [] rfl
          exact W.iret (v := 3) hx hb hr (fun t ht hW => ⟨⟨3, (), rfl, by (rw [pv_b4, pv_1_z (x := pv_u 24 v0) _ c1, pv_1_s (x := pv_u 16 v0) _ c2, pv_1_s (x := pv_u 8 v0) _ c6, pv_1_s (x := pv_u 0 v0) _ c8]; try rfl), by rw [ht]; exact hP9, va_K.moved hW.alike hK9, hD9⟩, hS.F ht⟩) hS.2.2 dX10_signsIn_29
  · skip
    refine lv_iinc (v := 1) (lv' := [(1, .int 1), (2, .int 24), (0, .int v0)]) hx hb dX10_signsIn_19 hl (k := 1) rfl (by decide) (by decide) rfl (fun ls hl => ?_)
    refine lv_iinc (v := 16) (lv' := [(2, .int 16), (1, .int 1), (0, .int v0)]) hx hb dX10_signsIn_22 hl (k := 1) rfl (by decide) (by decide) rfl (fun ls hl => ?_)
    refine lv_goto (tgt := 5) hx hb dX10_signsIn_25 (by decide) ?_
    refine lv_iload_n hx hb dX10_signsIn_5 rfl (lv_at hl 0 rfl) ?_
    refine lv_if_lt (tgt := 28) hx hb dX10_signsIn_6 (by decide) (fun c => absurd c (by decide)) (fun _ => ?_)
    refine lv_iload_n hx hb dX10_signsIn_9 rfl (lv_at hl 2 rfl) ?_
    refine lv_iload_n hx hb dX10_signsIn_10 rfl (lv_at hl 0 rfl) ?_
    refine lv_iushr (v := (v0.toUInt32 >>> ((16 : Int32).toUInt32 &&& Int32.toUInt32 31)).toInt32) hx hb dX10_signsIn_11 rfl ?_
    refine lv_sipush (v := 255) hx hb dX10_signsIn_12 (by decide) ?_
    refine lv_iand hx hb dX10_signsIn_15 ?_
    refine lv_if_eq (tgt := 22) hx hb dX10_signsIn_16 (by decide) (fun c9 => ?_) (fun c9 => ?_)
    · skip
      refine lv_iinc (v := 8) (lv' := [(2, .int 8), (1, .int 1), (0, .int v0)]) hx hb dX10_signsIn_22 hl (k := 0) rfl (by decide) (by decide) rfl (fun ls hl => ?_)
      refine lv_goto (tgt := 5) hx hb dX10_signsIn_25 (by decide) ?_
      refine lv_iload_n hx hb dX10_signsIn_5 rfl (lv_at hl 0 rfl) ?_
      refine lv_if_lt (tgt := 28) hx hb dX10_signsIn_6 (by decide) (fun c => absurd c (by decide)) (fun _ => ?_)
      refine lv_iload_n hx hb dX10_signsIn_9 rfl (lv_at hl 2 rfl) ?_
      refine lv_iload_n hx hb dX10_signsIn_10 rfl (lv_at hl 0 rfl) ?_
      refine lv_iushr (v := (v0.toUInt32 >>> ((8 : Int32).toUInt32 &&& Int32.toUInt32 31)).toInt32) hx hb dX10_signsIn_11 rfl ?_
      refine lv_sipush (v := 255) hx hb dX10_signsIn_12 (by decide) ?_
      refine lv_iand hx hb dX10_signsIn_15 ?_
      refine lv_if_eq (tgt := 22) hx hb dX10_signsIn_16 (by decide) (fun c10 => ?_) (fun c10 => ?_)
      · skip
        refine lv_iinc (v := 0) (lv' := [(2, .int 0), (1, .int 1), (0, .int v0)]) hx hb dX10_signsIn_22 hl (k := 0) rfl (by decide) (by decide) rfl (fun ls hl => ?_)
        refine lv_goto (tgt := 5) hx hb dX10_signsIn_25 (by decide) ?_
        refine lv_iload_n hx hb dX10_signsIn_5 rfl (lv_at hl 0 rfl) ?_
        refine lv_if_lt (tgt := 28) hx hb dX10_signsIn_6 (by decide) (fun c => absurd c (by decide)) (fun _ => ?_)
        refine lv_iload_n hx hb dX10_signsIn_9 rfl (lv_at hl 2 rfl) ?_
        refine lv_iload_n hx hb dX10_signsIn_10 rfl (lv_at hl 0 rfl) ?_
        refine lv_iushr (v := (v0.toUInt32 >>> ((0 : Int32).toUInt32 &&& Int32.toUInt32 31)).toInt32) hx hb dX10_signsIn_11 rfl ?_
        refine lv_sipush (v := 255) hx hb dX10_signsIn_12 (by decide) ?_
        refine lv_iand hx hb dX10_signsIn_15 ?_
        refine lv_if_eq (tgt := 22) hx hb dX10_signsIn_16 (by decide) (fun c11 => ?_) (fun c11 => ?_)
        · skip
          refine lv_iinc (v := (-8)) (lv' := [(2, .int (-8)), (1, .int 1), (0, .int v0)]) hx hb dX10_signsIn_22 hl (k := 0) rfl (by decide) (by decide) rfl (fun ls hl => ?_)
          refine lv_goto (tgt := 5) hx hb dX10_signsIn_25 (by decide) ?_
          refine lv_iload_n hx hb dX10_signsIn_5 rfl (lv_at hl 0 rfl) ?_
          refine lv_if_lt (tgt := 28) hx hb dX10_signsIn_6 (by decide) (fun _ => ?_) (fun c => absurd (by decide) c)
          refine lv_iload_n hx hb dX10_signsIn_28 rfl (lv_at hl 1 rfl) ?_
          have hP9 := hP.sub (ws' := []) [] rfl
          have hD9 := hD.sub (ws' := []) [] (by decide) rfl
          have hK9 := hK.sub (tys' := []) [] rfl
          exact W.iret (v := 1) hx hb hr (fun t ht hW => ⟨⟨1, (), rfl, by (rw [pv_b4, pv_1_s (x := pv_u 24 v0) _ c1, pv_1_z (x := pv_u 16 v0) _ c9, pv_1_z (x := pv_u 8 v0) _ c10, pv_1_z (x := pv_u 0 v0) _ c11]; try rfl), by rw [ht]; exact hP9, va_K.moved hW.alike hK9, hD9⟩, hS.F ht⟩) hS.2.2 dX10_signsIn_29
        · skip
          refine lv_iinc (v := 2) (lv' := [(1, .int 2), (2, .int 0), (0, .int v0)]) hx hb dX10_signsIn_19 hl (k := 1) rfl (by decide) (by decide) rfl (fun ls hl => ?_)
          refine lv_iinc (v := (-8)) (lv' := [(2, .int (-8)), (1, .int 2), (0, .int v0)]) hx hb dX10_signsIn_22 hl (k := 1) rfl (by decide) (by decide) rfl (fun ls hl => ?_)
          refine lv_goto (tgt := 5) hx hb dX10_signsIn_25 (by decide) ?_
          refine lv_iload_n hx hb dX10_signsIn_5 rfl (lv_at hl 0 rfl) ?_
          refine lv_if_lt (tgt := 28) hx hb dX10_signsIn_6 (by decide) (fun _ => ?_) (fun c => absurd (by decide) c)
          refine lv_iload_n hx hb dX10_signsIn_28 rfl (lv_at hl 1 rfl) ?_
          have hP9 := hP.sub (ws' := []) [] rfl
          have hD9 := hD.sub (ws' := []) [] (by decide) rfl
          have hK9 := hK.sub (tys' := []) [] rfl
          exact W.iret (v := 2) hx hb hr (fun t ht hW => ⟨⟨2, (), rfl, by (rw [pv_b4, pv_1_s (x := pv_u 24 v0) _ c1, pv_1_z (x := pv_u 16 v0) _ c9, pv_1_z (x := pv_u 8 v0) _ c10, pv_1_s (x := pv_u 0 v0) _ c11]; try rfl), by rw [ht]; exact hP9, va_K.moved hW.alike hK9, hD9⟩, hS.F ht⟩) hS.2.2 dX10_signsIn_29
      · skip
        refine lv_iinc (v := 2) (lv' := [(1, .int 2), (2, .int 8), (0, .int v0)]) hx hb dX10_signsIn_19 hl (k := 1) rfl (by decide) (by decide) rfl (fun ls hl => ?_)
        refine lv_iinc (v := 0) (lv' := [(2, .int 0), (1, .int 2), (0, .int v0)]) hx hb dX10_signsIn_22 hl (k := 1) rfl (by decide) (by decide) rfl (fun ls hl => ?_)
        refine lv_goto (tgt := 5) hx hb dX10_signsIn_25 (by decide) ?_
        refine lv_iload_n hx hb dX10_signsIn_5 rfl (lv_at hl 0 rfl) ?_
        refine lv_if_lt (tgt := 28) hx hb dX10_signsIn_6 (by decide) (fun c => absurd c (by decide)) (fun _ => ?_)
        refine lv_iload_n hx hb dX10_signsIn_9 rfl (lv_at hl 2 rfl) ?_
        refine lv_iload_n hx hb dX10_signsIn_10 rfl (lv_at hl 0 rfl) ?_
        refine lv_iushr (v := (v0.toUInt32 >>> ((0 : Int32).toUInt32 &&& Int32.toUInt32 31)).toInt32) hx hb dX10_signsIn_11 rfl ?_
        refine lv_sipush (v := 255) hx hb dX10_signsIn_12 (by decide) ?_
        refine lv_iand hx hb dX10_signsIn_15 ?_
        refine lv_if_eq (tgt := 22) hx hb dX10_signsIn_16 (by decide) (fun c12 => ?_) (fun c12 => ?_)
        · skip
          refine lv_iinc (v := (-8)) (lv' := [(2, .int (-8)), (1, .int 2), (0, .int v0)]) hx hb dX10_signsIn_22 hl (k := 0) rfl (by decide) (by decide) rfl (fun ls hl => ?_)
          refine lv_goto (tgt := 5) hx hb dX10_signsIn_25 (by decide) ?_
          refine lv_iload_n hx hb dX10_signsIn_5 rfl (lv_at hl 0 rfl) ?_
          refine lv_if_lt (tgt := 28) hx hb dX10_signsIn_6 (by decide) (fun _ => ?_) (fun c => absurd (by decide) c)
          refine lv_iload_n hx hb dX10_signsIn_28 rfl (lv_at hl 1 rfl) ?_
          have hP9 := hP.sub (ws' := []) [] rfl
          have hD9 := hD.sub (ws' := []) [] (by decide) rfl
          have hK9 := hK.sub (tys' := []) [] rfl
          exact W.iret (v := 2) hx hb hr (fun t ht hW => ⟨⟨2, (), rfl, by (rw [pv_b4, pv_1_s (x := pv_u 24 v0) _ c1, pv_1_z (x := pv_u 16 v0) _ c9, pv_1_s (x := pv_u 8 v0) _ c10, pv_1_z (x := pv_u 0 v0) _ c12]; try rfl), by rw [ht]; exact hP9, va_K.moved hW.alike hK9, hD9⟩, hS.F ht⟩) hS.2.2 dX10_signsIn_29
        · skip
          refine lv_iinc (v := 3) (lv' := [(1, .int 3), (2, .int 0), (0, .int v0)]) hx hb dX10_signsIn_19 hl (k := 1) rfl (by decide) (by decide) rfl (fun ls hl => ?_)
          refine lv_iinc (v := (-8)) (lv' := [(2, .int (-8)), (1, .int 3), (0, .int v0)]) hx hb dX10_signsIn_22 hl (k := 1) rfl (by decide) (by decide) rfl (fun ls hl => ?_)
          refine lv_goto (tgt := 5) hx hb dX10_signsIn_25 (by decide) ?_
          refine lv_iload_n hx hb dX10_signsIn_5 rfl (lv_at hl 0 rfl) ?_
          refine lv_if_lt (tgt := 28) hx hb dX10_signsIn_6 (by decide) (fun _ => ?_) (fun c => absurd (by decide) c)
          refine lv_iload_n hx hb dX10_signsIn_28 rfl (lv_at hl 1 rfl) ?_
          have hP9 := hP.sub (ws' := []) [] rfl
          have hD9 := hD.sub (ws' := []) [] (by decide) rfl
          have hK9 := hK.sub (tys' := []) [] rfl
          exact W.iret (v := 3) hx hb hr (fun t ht hW => ⟨⟨3, (), rfl, by (rw [pv_b4, pv_1_s (x := pv_u 24 v0) _ c1, pv_1_z (x := pv_u 16 v0) _ c9, pv_1_s (x := pv_u 8 v0) _ c10, pv_1_s (x := pv_u 0 v0) _ c12]; try rfl), by rw [ht]; exact hP9, va_K.moved hW.alike hK9, hD9⟩, hS.F ht⟩) hS.2.2 dX10_signsIn_29
    · skip
      refine lv_iinc (v := 2) (lv' := [(1, .int 2), (2, .int 16), (0, .int v0)]) hx hb dX10_signsIn_19 hl (k := 1) rfl (by decide) (by decide) rfl (fun ls hl => ?_)
      refine lv_iinc (v := 8) (lv' := [(2, .int 8), (1, .int 2), (0, .int v0)]) hx hb dX10_signsIn_22 hl (k := 1) rfl (by decide) (by decide) rfl (fun ls hl => ?_)
      refine lv_goto (tgt := 5) hx hb dX10_signsIn_25 (by decide) ?_
      refine lv_iload_n hx hb dX10_signsIn_5 rfl (lv_at hl 0 rfl) ?_
      refine lv_if_lt (tgt := 28) hx hb dX10_signsIn_6 (by decide) (fun c => absurd c (by decide)) (fun _ => ?_)
      refine lv_iload_n hx hb dX10_signsIn_9 rfl (lv_at hl 2 rfl) ?_
      refine lv_iload_n hx hb dX10_signsIn_10 rfl (lv_at hl 0 rfl) ?_
      refine lv_iushr (v := (v0.toUInt32 >>> ((8 : Int32).toUInt32 &&& Int32.toUInt32 31)).toInt32) hx hb dX10_signsIn_11 rfl ?_
      refine lv_sipush (v := 255) hx hb dX10_signsIn_12 (by decide) ?_
      refine lv_iand hx hb dX10_signsIn_15 ?_
      refine lv_if_eq (tgt := 22) hx hb dX10_signsIn_16 (by decide) (fun c13 => ?_) (fun c13 => ?_)
      · skip
        refine lv_iinc (v := 0) (lv' := [(2, .int 0), (1, .int 2), (0, .int v0)]) hx hb dX10_signsIn_22 hl (k := 0) rfl (by decide) (by decide) rfl (fun ls hl => ?_)
        refine lv_goto (tgt := 5) hx hb dX10_signsIn_25 (by decide) ?_
        refine lv_iload_n hx hb dX10_signsIn_5 rfl (lv_at hl 0 rfl) ?_
        refine lv_if_lt (tgt := 28) hx hb dX10_signsIn_6 (by decide) (fun c => absurd c (by decide)) (fun _ => ?_)
        refine lv_iload_n hx hb dX10_signsIn_9 rfl (lv_at hl 2 rfl) ?_
        refine lv_iload_n hx hb dX10_signsIn_10 rfl (lv_at hl 0 rfl) ?_
        refine lv_iushr (v := (v0.toUInt32 >>> ((0 : Int32).toUInt32 &&& Int32.toUInt32 31)).toInt32) hx hb dX10_signsIn_11 rfl ?_
        refine lv_sipush (v := 255) hx hb dX10_signsIn_12 (by decide) ?_
        refine lv_iand hx hb dX10_signsIn_15 ?_
        refine lv_if_eq (tgt := 22) hx hb dX10_signsIn_16 (by decide) (fun c14 => ?_) (fun c14 => ?_)
        · skip
          refine lv_iinc (v := (-8)) (lv' := [(2, .int (-8)), (1, .int 2), (0, .int v0)]) hx hb dX10_signsIn_22 hl (k := 0) rfl (by decide) (by decide) rfl (fun ls hl => ?_)
          refine lv_goto (tgt := 5) hx hb dX10_signsIn_25 (by decide) ?_
          refine lv_iload_n hx hb dX10_signsIn_5 rfl (lv_at hl 0 rfl) ?_
          refine lv_if_lt (tgt := 28) hx hb dX10_signsIn_6 (by decide) (fun _ => ?_) (fun c => absurd (by decide) c)
          refine lv_iload_n hx hb dX10_signsIn_28 rfl (lv_at hl 1 rfl) ?_
          have hP9 := hP.sub (ws' := []) [] rfl
          have hD9 := hD.sub (ws' := []) [] (by decide) rfl
          have hK9 := hK.sub (tys' := []) [] rfl
          exact W.iret (v := 2) hx hb hr (fun t ht hW => ⟨⟨2, (), rfl, by (rw [pv_b4, pv_1_s (x := pv_u 24 v0) _ c1, pv_1_s (x := pv_u 16 v0) _ c9, pv_1_z (x := pv_u 8 v0) _ c13, pv_1_z (x := pv_u 0 v0) _ c14]; try rfl), by rw [ht]; exact hP9, va_K.moved hW.alike hK9, hD9⟩, hS.F ht⟩) hS.2.2 dX10_signsIn_29
        · skip
          refine lv_iinc (v := 3) (lv' := [(1, .int 3), (2, .int 0), (0, .int v0)]) hx hb dX10_signsIn_19 hl (k := 1) rfl (by decide) (by decide) rfl (fun ls hl => ?_)
          refine lv_iinc (v := (-8)) (lv' := [(2, .int (-8)), (1, .int 3), (0, .int v0)]) hx hb dX10_signsIn_22 hl (k := 1) rfl (by decide) (by decide) rfl (fun ls hl => ?_)
          refine lv_goto (tgt := 5) hx hb dX10_signsIn_25 (by decide) ?_
          refine lv_iload_n hx hb dX10_signsIn_5 rfl (lv_at hl 0 rfl) ?_
          refine lv_if_lt (tgt := 28) hx hb dX10_signsIn_6 (by decide) (fun _ => ?_) (fun c => absurd (by decide) c)
          refine lv_iload_n hx hb dX10_signsIn_28 rfl (lv_at hl 1 rfl) ?_
          have hP9 := hP.sub (ws' := []) [] rfl
          have hD9 := hD.sub (ws' := []) [] (by decide) rfl
          have hK9 := hK.sub (tys' := []) [] rfl
          exact W.iret (v := 3) hx hb hr (fun t ht hW => ⟨⟨3, (), rfl, by (rw [pv_b4, pv_1_s (x := pv_u 24 v0) _ c1, pv_1_s (x := pv_u 16 v0) _ c9, pv_1_z (x := pv_u 8 v0) _ c13, pv_1_s (x := pv_u 0 v0) _ c14]; try rfl), by rw [ht]; exact hP9, va_K.moved hW.alike hK9, hD9⟩, hS.F ht⟩) hS.2.2 dX10_signsIn_29
      · skip
        refine lv_iinc (v := 3) (lv' := [(1, .int 3), (2, .int 8), (0, .int v0)]) hx hb dX10_signsIn_19 hl (k := 1) rfl (by decide) (by decide) rfl (fun ls hl => ?_)
        refine lv_iinc (v := 0) (lv' := [(2, .int 0), (1, .int 3), (0, .int v0)]) hx hb dX10_signsIn_22 hl (k := 1) rfl (by decide) (by decide) rfl (fun ls hl => ?_)
        refine lv_goto (tgt := 5) hx hb dX10_signsIn_25 (by decide) ?_
        refine lv_iload_n hx hb dX10_signsIn_5 rfl (lv_at hl 0 rfl) ?_
        refine lv_if_lt (tgt := 28) hx hb dX10_signsIn_6 (by decide) (fun c => absurd c (by decide)) (fun _ => ?_)
        refine lv_iload_n hx hb dX10_signsIn_9 rfl (lv_at hl 2 rfl) ?_
        refine lv_iload_n hx hb dX10_signsIn_10 rfl (lv_at hl 0 rfl) ?_
        refine lv_iushr (v := (v0.toUInt32 >>> ((0 : Int32).toUInt32 &&& Int32.toUInt32 31)).toInt32) hx hb dX10_signsIn_11 rfl ?_
        refine lv_sipush (v := 255) hx hb dX10_signsIn_12 (by decide) ?_
        refine lv_iand hx hb dX10_signsIn_15 ?_
        refine lv_if_eq (tgt := 22) hx hb dX10_signsIn_16 (by decide) (fun c15 => ?_) (fun c15 => ?_)
        · skip
          refine lv_iinc (v := (-8)) (lv' := [(2, .int (-8)), (1, .int 3), (0, .int v0)]) hx hb dX10_signsIn_22 hl (k := 0) rfl (by decide) (by decide) rfl (fun ls hl => ?_)
          refine lv_goto (tgt := 5) hx hb dX10_signsIn_25 (by decide) ?_
          refine lv_iload_n hx hb dX10_signsIn_5 rfl (lv_at hl 0 rfl) ?_
          refine lv_if_lt (tgt := 28) hx hb dX10_signsIn_6 (by decide) (fun _ => ?_) (fun c => absurd (by decide) c)
          refine lv_iload_n hx hb dX10_signsIn_28 rfl (lv_at hl 1 rfl) ?_
          have hP9 := hP.sub (ws' := []) [] rfl
          have hD9 := hD.sub (ws' := []) [] (by decide) rfl
          have hK9 := hK.sub (tys' := []) [] rfl
          exact W.iret (v := 3) hx hb hr (fun t ht hW => ⟨⟨3, (), rfl, by (rw [pv_b4, pv_1_s (x := pv_u 24 v0) _ c1, pv_1_s (x := pv_u 16 v0) _ c9, pv_1_s (x := pv_u 8 v0) _ c13, pv_1_z (x := pv_u 0 v0) _ c15]; try rfl), by rw [ht]; exact hP9, va_K.moved hW.alike hK9, hD9⟩, hS.F ht⟩) hS.2.2 dX10_signsIn_29
        · skip
          refine lv_iinc (v := 4) (lv' := [(1, .int 4), (2, .int 0), (0, .int v0)]) hx hb dX10_signsIn_19 hl (k := 1) rfl (by decide) (by decide) rfl (fun ls hl => ?_)
          refine lv_iinc (v := (-8)) (lv' := [(2, .int (-8)), (1, .int 4), (0, .int v0)]) hx hb dX10_signsIn_22 hl (k := 1) rfl (by decide) (by decide) rfl (fun ls hl => ?_)
          refine lv_goto (tgt := 5) hx hb dX10_signsIn_25 (by decide) ?_
          refine lv_iload_n hx hb dX10_signsIn_5 rfl (lv_at hl 0 rfl) ?_
          refine lv_if_lt (tgt := 28) hx hb dX10_signsIn_6 (by decide) (fun _ => ?_) (fun c => absurd (by decide) c)
          refine lv_iload_n hx hb dX10_signsIn_28 rfl (lv_at hl 1 rfl) ?_
          have hP9 := hP.sub (ws' := []) [] rfl
          have hD9 := hD.sub (ws' := []) [] (by decide) rfl
          have hK9 := hK.sub (tys' := []) [] rfl
          exact W.iret (v := 4) hx hb hr (fun t ht hW => ⟨⟨4, (), rfl, by (rw [pv_b4, pv_1_s (x := pv_u 24 v0) _ c1, pv_1_s (x := pv_u 16 v0) _ c9, pv_1_s (x := pv_u 8 v0) _ c13, pv_1_s (x := pv_u 0 v0) _ c15]; try rfl), by rw [ht]; exact hP9, va_K.moved hW.alike hK9, hD9⟩, hS.F ht⟩) hS.2.2 dX10_signsIn_29
def q_X10_add : List Cond := .code yX10_add cX10_add 4 none :: (([.fieldLink RX10 15 "LeftArguments$Tape" "used" "I", .fieldLink RX10 9 "LeftArguments$Tape" "bytes" "[I"] : List Cond) ++ wsX100)
set_option maxHeartbeats 4000000 in
set_option maxRecDepth 100000 in
theorem k_X10_add (l : Launch) (dC : Nat → ClassId) (dI : Nat → Nat → Nat) (f0 : Nat → Int32) (g0 : ClassId) (h0 h1 : Nat) (n0 : Nat) (v0 : Int32) (hn0 : n0 ≤ 236) (sz : Nat) : Met l yX10_add q_X10_add ({ frames := 0, cells := 0, slots := 0, locals := 0 }) (va_Pc [.ref h0, .int v0] (fun U => U.heap.size = sz ∧ va_P (dC, dI) vwCl [(h0, .inr (10, [.ref h1, .int (nI n0), .int 0, .int (-1), .int 0])), (h1, .inl (g0, 240, .inl f0))] U.heap ∧ va_K (dC, dI) vwCl [(g0, .int)] U ∧ va_D (fun _ => True) [(h0, .inr (10, [.ref h1, .int (nI n0), .int 0, .int (-1), .int 0])), (h1, .inl (g0, 240, .inl f0))])) (va_Qv (fun (_ : Unit) => True) (fun (_ : Unit) (t : State) => ∃ (f9 : Nat → Int32), va_P (dC, dI) vwCl [(h0, .inr (10, [.ref h1, .int (nI (pv_b4 v0 n0)), .int 0, .int (-1), .int 0])), (h1, .inl (g0, 240, .inl f9))] t.heap ∧ va_K (dC, dI) vwCl [(g0, .int)] t ∧ va_D (va_A [(h0, .inr (10, [.ref h1, .int (nI n0), .int 0, .int (-1), .int 0])), (h1, .inl (g0, 240, .inl f0))] sz) [(h0, .inr (10, [.ref h1, .int (nI (pv_b4 v0 n0)), .int 0, .int (-1), .int 0])), (h1, .inl (g0, 240, .inl f9))]) (va_A [(h0, .inr (10, [.ref h1, .int (nI n0), .int 0, .int (-1), .int 0])), (h1, .inl (g0, 240, .inl f0))] sz)) 0 0 (va_A [(h0, .inr (10, [.ref h1, .int (nI n0), .int 0, .int (-1), .int 0])), (h1, .inl (g0, 240, .inl f0))] sz) := by
  refine Met.ofW (cc := cX10_add) (maxL := 4) (ret := none) (by decide) rfl ?_
  intro p e s m args below meth c s₁ B hml hv
  obtain ⟨rfl, hsz, hP, hK, hD0⟩ := hv
  have hx := B.exec
  have hb := B.bytes
  have hr := B.returns
  have hts := atoms_spec (ws := q_X10_add) B.pre
  have hown : s.vm.findClass RX10 = some m.cls := findClass_of_methodNamed B.named
  have hlocks := B.notSynchronized
  subst hsz
  have hD := hD0.self (sz := s.heap.size)
  generalize hAe : va_A [(h0, .inr (10, [.ref h1, .int (nI n0), .int 0, .int (-1), .int 0])), (h1, .inl (g0, 240, .inl f0))] s.heap.size = A at hD ⊢
  have hA : ∀ q : Nat, s.heap.size ≤ q → A q := fun q h => by rw [← hAe]; exact Or.inr h
  have hS : va_S A s.heap s.heap [] := va_S.rf
  have hl := lv_entry ([.ref h0, .int v0]) (n := 4) (Nat.le_of_ble_eq_true rfl)
  rw [lg_entry_eq]
  generalize (lg_sl ([.ref h0, .int v0]) ++ List.replicate (4 - (lg_sl ([.ref h0, .int v0])).length) Slot.unset).toArray = ls at hl ⊢
  have hl : lv_has ls 4 [(0, .ref h0), (1, .int v0)] := hl
  refine lv_bipush (v := 24) hx hb dX10_add_0 (by decide) ?_
  refine lv_istore_n (lv' := [(2, .int 24), (0, .ref h0), (1, .int v0)]) hx hb dX10_add_2 rfl hl (by decide) rfl (fun ls hl => ?_)
  refine lv_iload_n hx hb dX10_add_3 rfl (lv_at hl 0 rfl) ?_
  refine lv_if_lt (tgt := 55) hx hb dX10_add_4 (by decide) (fun c => absurd c (by decide)) (fun _ => ?_)
  refine lv_iload_n hx hb dX10_add_7 rfl (lv_at hl 2 rfl) ?_
  refine lv_iload_n hx hb dX10_add_8 rfl (lv_at hl 0 rfl) ?_
  refine lv_iushr (v := (v0.toUInt32 >>> ((24 : Int32).toUInt32 &&& Int32.toUInt32 31)).toInt32) hx hb dX10_add_9 rfl ?_
  refine lv_sipush (v := 255) hx hb dX10_add_10 (by decide) ?_
  refine lv_iand hx hb dX10_add_13 ?_
  refine lv_istore_n (lv' := [(3, .int (((v0.toUInt32 >>> ((24 : Int32).toUInt32 &&& Int32.toUInt32 31)).toInt32) &&& 255)), (2, .int 24), (0, .ref h0), (1, .int v0)]) hx hb dX10_add_14 rfl hl (by decide) rfl (fun ls hl => ?_)
  refine lv_iload_n hx hb dX10_add_15 rfl (lv_at hl 0 rfl) ?_
  refine lv_if_eq (tgt := 49) hx hb dX10_add_16 (by decide) (fun c1 => ?_) (fun c1 => ?_)
  · skip
    refine lv_iinc (v := 16) (lv' := [(2, .int 16), (3, .int (((v0.toUInt32 >>> ((24 : Int32).toUInt32 &&& Int32.toUInt32 31)).toInt32) &&& 255)), (0, .ref h0), (1, .int v0)]) hx hb dX10_add_49 hl (k := 1) rfl (by decide) (by decide) rfl (fun ls hl => ?_)
    refine lv_goto (tgt := 3) hx hb dX10_add_52 (by decide) ?_
    refine lv_iload_n hx hb dX10_add_3 rfl (lv_at hl 0 rfl) ?_
    refine lv_if_lt (tgt := 55) hx hb dX10_add_4 (by decide) (fun c => absurd c (by decide)) (fun _ => ?_)
    refine lv_iload_n hx hb dX10_add_7 rfl (lv_at hl 3 rfl) ?_
    refine lv_iload_n hx hb dX10_add_8 rfl (lv_at hl 0 rfl) ?_
    refine lv_iushr (v := (v0.toUInt32 >>> ((16 : Int32).toUInt32 &&& Int32.toUInt32 31)).toInt32) hx hb dX10_add_9 rfl ?_
    refine lv_sipush (v := 255) hx hb dX10_add_10 (by decide) ?_
    refine lv_iand hx hb dX10_add_13 ?_
    refine lv_istore_n (lv' := [(3, .int (((v0.toUInt32 >>> ((16 : Int32).toUInt32 &&& Int32.toUInt32 31)).toInt32) &&& 255)), (2, .int 16), (0, .ref h0), (1, .int v0)]) hx hb dX10_add_14 rfl hl (by decide) rfl (fun ls hl => ?_)
    refine lv_iload_n hx hb dX10_add_15 rfl (lv_at hl 0 rfl) ?_
    refine lv_if_eq (tgt := 49) hx hb dX10_add_16 (by decide) (fun c2 => ?_) (fun c2 => ?_)
    · skip
      refine lv_iinc (v := 8) (lv' := [(2, .int 8), (3, .int (((v0.toUInt32 >>> ((16 : Int32).toUInt32 &&& Int32.toUInt32 31)).toInt32) &&& 255)), (0, .ref h0), (1, .int v0)]) hx hb dX10_add_49 hl (k := 1) rfl (by decide) (by decide) rfl (fun ls hl => ?_)
      refine lv_goto (tgt := 3) hx hb dX10_add_52 (by decide) ?_
      refine lv_iload_n hx hb dX10_add_3 rfl (lv_at hl 0 rfl) ?_
      refine lv_if_lt (tgt := 55) hx hb dX10_add_4 (by decide) (fun c => absurd c (by decide)) (fun _ => ?_)
      refine lv_iload_n hx hb dX10_add_7 rfl (lv_at hl 3 rfl) ?_
      refine lv_iload_n hx hb dX10_add_8 rfl (lv_at hl 0 rfl) ?_
      refine lv_iushr (v := (v0.toUInt32 >>> ((8 : Int32).toUInt32 &&& Int32.toUInt32 31)).toInt32) hx hb dX10_add_9 rfl ?_
      refine lv_sipush (v := 255) hx hb dX10_add_10 (by decide) ?_
      refine lv_iand hx hb dX10_add_13 ?_
      refine lv_istore_n (lv' := [(3, .int (((v0.toUInt32 >>> ((8 : Int32).toUInt32 &&& Int32.toUInt32 31)).toInt32) &&& 255)), (2, .int 8), (0, .ref h0), (1, .int v0)]) hx hb dX10_add_14 rfl hl (by decide) rfl (fun ls hl => ?_)
      refine lv_iload_n hx hb dX10_add_15 rfl (lv_at hl 0 rfl) ?_
      refine lv_if_eq (tgt := 49) hx hb dX10_add_16 (by decide) (fun c3 => ?_) (fun c3 => ?_)
      · skip
        refine lv_iinc (v := 0) (lv' := [(2, .int 0), (3, .int (((v0.toUInt32 >>> ((8 : Int32).toUInt32 &&& Int32.toUInt32 31)).toInt32) &&& 255)), (0, .ref h0), (1, .int v0)]) hx hb dX10_add_49 hl (k := 1) rfl (by decide) (by decide) rfl (fun ls hl => ?_)
        refine lv_goto (tgt := 3) hx hb dX10_add_52 (by decide) ?_
        refine lv_iload_n hx hb dX10_add_3 rfl (lv_at hl 0 rfl) ?_
        refine lv_if_lt (tgt := 55) hx hb dX10_add_4 (by decide) (fun c => absurd c (by decide)) (fun _ => ?_)
        refine lv_iload_n hx hb dX10_add_7 rfl (lv_at hl 3 rfl) ?_
        refine lv_iload_n hx hb dX10_add_8 rfl (lv_at hl 0 rfl) ?_
        refine lv_iushr (v := (v0.toUInt32 >>> ((0 : Int32).toUInt32 &&& Int32.toUInt32 31)).toInt32) hx hb dX10_add_9 rfl ?_
        refine lv_sipush (v := 255) hx hb dX10_add_10 (by decide) ?_
        refine lv_iand hx hb dX10_add_13 ?_
        refine lv_istore_n (lv' := [(3, .int (((v0.toUInt32 >>> ((0 : Int32).toUInt32 &&& Int32.toUInt32 31)).toInt32) &&& 255)), (2, .int 0), (0, .ref h0), (1, .int v0)]) hx hb dX10_add_14 rfl hl (by decide) rfl (fun ls hl => ?_)
        refine lv_iload_n hx hb dX10_add_15 rfl (lv_at hl 0 rfl) ?_
        refine lv_if_eq (tgt := 49) hx hb dX10_add_16 (by decide) (fun c4 => ?_) (fun c4 => ?_)
        · skip
          refine lv_iinc (v := (-8)) (lv' := [(2, .int (-8)), (3, .int (((v0.toUInt32 >>> ((0 : Int32).toUInt32 &&& Int32.toUInt32 31)).toInt32) &&& 255)), (0, .ref h0), (1, .int v0)]) hx hb dX10_add_49 hl (k := 1) rfl (by decide) (by decide) rfl (fun ls hl => ?_)
          refine lv_goto (tgt := 3) hx hb dX10_add_52 (by decide) ?_
          refine lv_iload_n hx hb dX10_add_3 rfl (lv_at hl 0 rfl) ?_
          refine lv_if_lt (tgt := 55) hx hb dX10_add_4 (by decide) (fun _ => ?_) (fun c => absurd (by decide) c)
          have e9 : nI (n0) = nI (pv_b4 v0 n0) := by (rw [pv_b4, pv_1_z (x := pv_u 24 v0) _ c1, pv_1_z (x := pv_u 16 v0) _ c2, pv_1_z (x := pv_u 8 v0) _ c3, pv_1_z (x := pv_u 0 v0) _ c4]; try rfl)
          rw [e9] at hP hD
          have hP9 := hP.sub (ws' := [(h0, .inr (10, [.ref h1, .int (nI (pv_b4 v0 n0)), .int 0, .int (-1), .int 0])), (h1, .inl (g0, 240, .inl f0))]) [0, 1] rfl
          have hD9 := hD.sub (ws' := [(h0, .inr (10, [.ref h1, .int (nI (pv_b4 v0 n0)), .int 0, .int (-1), .int 0])), (h1, .inl (g0, 240, .inl f0))]) [0, 1] (by decide) rfl
          have hK9 := hK.sub (tys' := [(g0, .int)]) [0] rfl
          exact W.vret hx hb hr (fun t ht hW => ⟨⟨(), rfl, trivial, f0, by rw [ht]; exact hP9, va_K.moved hW.alike hK9, hD9⟩, hS.F ht⟩) hS.2.2 dX10_add_55
        · skip
          refine lv_aload_n hx hb dX10_add_19 rfl (lv_at hl 2 rfl) ?_
          refine va_get (D := (dC, dI)) (ci := 10) (v := .int (nI n0)) (C := RX10) (T := TX10) (N := 5) hx hb hts (fun _ h => List.mem_cons_of_mem _ (List.mem_append_right _ h)) hown hK hP 0 rfl rfl 1 (by decide) (hts (.fieldLink RX10 15 "LeftArguments$Tape" "used" "I") (List.mem_cons_of_mem _ (List.mem_append_left _ (List.mem_of_getElem? (i := 0) rfl)))) (fun _ h9 => h9) rfl dX10_add_20 ?_
          refine lv_sipush (v := 240) hx hb dX10_add_23 (by decide) ?_
          refine lv_icmp_ge (tgt := 49) hx hb dX10_add_26 (by decide) (fun c => absurd c (nI_ge (a := n0) (b := 240) (Nat.lt_of_le_of_lt hn0 (Nat.le_of_ble_eq_true rfl)) (by decide))) (fun _ => ?_)
          refine lv_aload_n hx hb dX10_add_29 rfl (lv_at hl 2 rfl) ?_
          refine va_get (D := (dC, dI)) (ci := 10) (v := .ref h1) (C := RX10) (T := TX10) (N := 5) hx hb hts (fun _ h => List.mem_cons_of_mem _ (List.mem_append_right _ h)) hown hK hP 0 rfl rfl 0 (by decide) (hts (.fieldLink RX10 9 "LeftArguments$Tape" "bytes" "[I") (List.mem_cons_of_mem _ (List.mem_append_left _ (List.mem_of_getElem? (i := 1) rfl)))) (fun _ h9 => h9) rfl dX10_add_30 ?_
          refine lv_aload_n hx hb dX10_add_33 rfl (lv_at hl 2 rfl) ?_
          refine va_get (D := (dC, dI)) (ci := 10) (v := .int (nI n0)) (C := RX10) (T := TX10) (N := 5) hx hb hts (fun _ h => List.mem_cons_of_mem _ (List.mem_append_right _ h)) hown hK hP 0 rfl rfl 1 (by decide) (hts (.fieldLink RX10 15 "LeftArguments$Tape" "used" "I") (List.mem_cons_of_mem _ (List.mem_append_left _ (List.mem_of_getElem? (i := 0) rfl)))) (fun _ h9 => h9) rfl dX10_add_34 ?_
          refine lv_iload_n hx hb dX10_add_37 rfl (lv_at hl 0 rfl) ?_
          refine va_iast hx hb hK hP hD hS 1 0 rfl rfl (vp_in_nI (n := n0) (N := 240) (Nat.lt_of_le_of_lt hn0 (Nat.le_of_ble_eq_true rfl)) (by decide)) dX10_add_38 (fun H locs hP hD hS => ?_)
          have hP : va_P (dC, dI) vwCl [(h0, .inr (10, [.ref h1, .int (nI n0), .int 0, .int (-1), .int 0])), (h1, .inl (g0, 240, .inl (upd f0 (Int32.toNatClampNeg (nI n0)) (((v0.toUInt32 >>> ((0 : Int32).toUInt32 &&& Int32.toUInt32 31)).toInt32) &&& 255))))] H := hP
          have hD : va_D A [(h0, .inr (10, [.ref h1, .int (nI n0), .int 0, .int (-1), .int 0])), (h1, .inl (g0, 240, .inl (upd f0 (Int32.toNatClampNeg (nI n0)) (((v0.toUInt32 >>> ((0 : Int32).toUInt32 &&& Int32.toUInt32 31)).toInt32) &&& 255))))] := hD
          refine lv_aload_n hx hb dX10_add_39 rfl (lv_at hl 2 rfl) ?_
          refine lv_dup hx hb dX10_add_40 rfl ?_
          refine va_get (D := (dC, dI)) (ci := 10) (v := .int (nI n0)) (C := RX10) (T := TX10) (N := 5) hx hb hts (fun _ h => List.mem_cons_of_mem _ (List.mem_append_right _ h)) hown hK hP 0 rfl rfl 1 (by decide) (hts (.fieldLink RX10 15 "LeftArguments$Tape" "used" "I") (List.mem_cons_of_mem _ (List.mem_append_left _ (List.mem_of_getElem? (i := 0) rfl)))) (fun _ h9 => h9) rfl dX10_add_41 ?_
          refine lv_iconst (v := 1) hx hb dX10_add_44 (by decide) ?_
          refine lv_iadd hx hb dX10_add_45 ?_
          refine lv_topi (fun tv5 etv5 => ?_)
          obtain rfl : tv5 = nI (n0 + 1) := etv5.trans (nI_add n0 1)
          refine va_put (D := (dC, dI)) (ci := 10) (v := .int (nI (n0 + 1))) (ty := .int) (C := RX10) (T := TX10) (N := 5) hx hb hts (fun _ h => List.mem_cons_of_mem _ (List.mem_append_right _ h)) tyX10 tyX10_ok nmX10 hown hK hP hD hS 0 rfl rfl 1 (by decide) (hts (.fieldLink RX10 15 "LeftArguments$Tape" "used" "I") (List.mem_cons_of_mem _ (List.mem_append_left _ (List.mem_of_getElem? (i := 0) rfl)))) (fun _ h9 => h9) rfl (by decide +kernel) rfl rfl (Nat.le_of_ble_eq_true rfl) dX10_add_46 (fun H locs hP hD hS => ?_)
          have hP : va_P (dC, dI) vwCl [(h0, .inr (10, [.ref h1, .int (nI (n0 + 1)), .int 0, .int (-1), .int 0])), (h1, .inl (g0, 240, .inl (upd f0 (Int32.toNatClampNeg (nI n0)) (((v0.toUInt32 >>> ((0 : Int32).toUInt32 &&& Int32.toUInt32 31)).toInt32) &&& 255))))] H := hP
          have hD : va_D A [(h0, .inr (10, [.ref h1, .int (nI (n0 + 1)), .int 0, .int (-1), .int 0])), (h1, .inl (g0, 240, .inl (upd f0 (Int32.toNatClampNeg (nI n0)) (((v0.toUInt32 >>> ((0 : Int32).toUInt32 &&& Int32.toUInt32 31)).toInt32) &&& 255))))] := hD
          refine lv_iinc (v := (-8)) (lv' := [(2, .int (-8)), (3, .int (((v0.toUInt32 >>> ((0 : Int32).toUInt32 &&& Int32.toUInt32 31)).toInt32) &&& 255)), (0, .ref h0), (1, .int v0)]) hx hb dX10_add_49 hl (k := 1) rfl (by decide) (by decide) rfl (fun ls hl => ?_)
          refine lv_goto (tgt := 3) hx hb dX10_add_52 (by decide) ?_
          refine lv_iload_n hx hb dX10_add_3 rfl (lv_at hl 0 rfl) ?_
          refine lv_if_lt (tgt := 55) hx hb dX10_add_4 (by decide) (fun _ => ?_) (fun c => absurd (by decide) c)
          have e9 : nI (n0 + 1) = nI (pv_b4 v0 n0) := by (rw [pv_b4, pv_1_z (x := pv_u 24 v0) _ c1, pv_1_z (x := pv_u 16 v0) _ c2, pv_1_z (x := pv_u 8 v0) _ c3, pv_1_s (x := pv_u 0 v0) _ c4]; try rfl)
          rw [e9] at hP hD
          have hP9 := hP.sub (ws' := [(h0, .inr (10, [.ref h1, .int (nI (pv_b4 v0 n0)), .int 0, .int (-1), .int 0])), (h1, .inl (g0, 240, .inl (upd f0 (Int32.toNatClampNeg (nI n0)) (((v0.toUInt32 >>> ((0 : Int32).toUInt32 &&& Int32.toUInt32 31)).toInt32) &&& 255))))]) [0, 1] rfl
          have hD9 := hD.sub (ws' := [(h0, .inr (10, [.ref h1, .int (nI (pv_b4 v0 n0)), .int 0, .int (-1), .int 0])), (h1, .inl (g0, 240, .inl (upd f0 (Int32.toNatClampNeg (nI n0)) (((v0.toUInt32 >>> ((0 : Int32).toUInt32 &&& Int32.toUInt32 31)).toInt32) &&& 255))))]) [0, 1] (by decide) rfl
          have hK9 := hK.sub (tys' := [(g0, .int)]) [0] rfl
          exact W.vret hx hb hr (fun t ht hW => ⟨⟨(), rfl, trivial, (upd f0 (Int32.toNatClampNeg (nI n0)) (((v0.toUInt32 >>> ((0 : Int32).toUInt32 &&& Int32.toUInt32 31)).toInt32) &&& 255)), by rw [ht]; exact hP9, va_K.moved hW.alike hK9, hD9⟩, hS.F ht⟩) hS.2.2 dX10_add_55
      · skip
        refine lv_aload_n hx hb dX10_add_19 rfl (lv_at hl 2 rfl) ?_
        refine va_get (D := (dC, dI)) (ci := 10) (v := .int (nI n0)) (C := RX10) (T := TX10) (N := 5) hx hb hts (fun _ h => List.mem_cons_of_mem _ (List.mem_append_right _ h)) hown hK hP 0 rfl rfl 1 (by decide) (hts (.fieldLink RX10 15 "LeftArguments$Tape" "used" "I") (List.mem_cons_of_mem _ (List.mem_append_left _ (List.mem_of_getElem? (i := 0) rfl)))) (fun _ h9 => h9) rfl dX10_add_20 ?_
        refine lv_sipush (v := 240) hx hb dX10_add_23 (by decide) ?_
        refine lv_icmp_ge (tgt := 49) hx hb dX10_add_26 (by decide) (fun c => absurd c (nI_ge (a := n0) (b := 240) (Nat.lt_of_le_of_lt hn0 (Nat.le_of_ble_eq_true rfl)) (by decide))) (fun _ => ?_)
        refine lv_aload_n hx hb dX10_add_29 rfl (lv_at hl 2 rfl) ?_
        refine va_get (D := (dC, dI)) (ci := 10) (v := .ref h1) (C := RX10) (T := TX10) (N := 5) hx hb hts (fun _ h => List.mem_cons_of_mem _ (List.mem_append_right _ h)) hown hK hP 0 rfl rfl 0 (by decide) (hts (.fieldLink RX10 9 "LeftArguments$Tape" "bytes" "[I") (List.mem_cons_of_mem _ (List.mem_append_left _ (List.mem_of_getElem? (i := 1) rfl)))) (fun _ h9 => h9) rfl dX10_add_30 ?_
        refine lv_aload_n hx hb dX10_add_33 rfl (lv_at hl 2 rfl) ?_
        refine va_get (D := (dC, dI)) (ci := 10) (v := .int (nI n0)) (C := RX10) (T := TX10) (N := 5) hx hb hts (fun _ h => List.mem_cons_of_mem _ (List.mem_append_right _ h)) hown hK hP 0 rfl rfl 1 (by decide) (hts (.fieldLink RX10 15 "LeftArguments$Tape" "used" "I") (List.mem_cons_of_mem _ (List.mem_append_left _ (List.mem_of_getElem? (i := 0) rfl)))) (fun _ h9 => h9) rfl dX10_add_34 ?_
        refine lv_iload_n hx hb dX10_add_37 rfl (lv_at hl 0 rfl) ?_
        refine va_iast hx hb hK hP hD hS 1 0 rfl rfl (vp_in_nI (n := n0) (N := 240) (Nat.lt_of_le_of_lt hn0 (Nat.le_of_ble_eq_true rfl)) (by decide)) dX10_add_38 (fun H locs hP hD hS => ?_)
        have hP : va_P (dC, dI) vwCl [(h0, .inr (10, [.ref h1, .int (nI n0), .int 0, .int (-1), .int 0])), (h1, .inl (g0, 240, .inl (upd f0 (Int32.toNatClampNeg (nI n0)) (((v0.toUInt32 >>> ((8 : Int32).toUInt32 &&& Int32.toUInt32 31)).toInt32) &&& 255))))] H := hP
        have hD : va_D A [(h0, .inr (10, [.ref h1, .int (nI n0), .int 0, .int (-1), .int 0])), (h1, .inl (g0, 240, .inl (upd f0 (Int32.toNatClampNeg (nI n0)) (((v0.toUInt32 >>> ((8 : Int32).toUInt32 &&& Int32.toUInt32 31)).toInt32) &&& 255))))] := hD
        refine lv_aload_n hx hb dX10_add_39 rfl (lv_at hl 2 rfl) ?_
        refine lv_dup hx hb dX10_add_40 rfl ?_
        refine va_get (D := (dC, dI)) (ci := 10) (v := .int (nI n0)) (C := RX10) (T := TX10) (N := 5) hx hb hts (fun _ h => List.mem_cons_of_mem _ (List.mem_append_right _ h)) hown hK hP 0 rfl rfl 1 (by decide) (hts (.fieldLink RX10 15 "LeftArguments$Tape" "used" "I") (List.mem_cons_of_mem _ (List.mem_append_left _ (List.mem_of_getElem? (i := 0) rfl)))) (fun _ h9 => h9) rfl dX10_add_41 ?_
        refine lv_iconst (v := 1) hx hb dX10_add_44 (by decide) ?_
        refine lv_iadd hx hb dX10_add_45 ?_
        refine lv_topi (fun tv6 etv6 => ?_)
        obtain rfl : tv6 = nI (n0 + 1) := etv6.trans (nI_add n0 1)
        refine va_put (D := (dC, dI)) (ci := 10) (v := .int (nI (n0 + 1))) (ty := .int) (C := RX10) (T := TX10) (N := 5) hx hb hts (fun _ h => List.mem_cons_of_mem _ (List.mem_append_right _ h)) tyX10 tyX10_ok nmX10 hown hK hP hD hS 0 rfl rfl 1 (by decide) (hts (.fieldLink RX10 15 "LeftArguments$Tape" "used" "I") (List.mem_cons_of_mem _ (List.mem_append_left _ (List.mem_of_getElem? (i := 0) rfl)))) (fun _ h9 => h9) rfl (by decide +kernel) rfl rfl (Nat.le_of_ble_eq_true rfl) dX10_add_46 (fun H locs hP hD hS => ?_)
        have hP : va_P (dC, dI) vwCl [(h0, .inr (10, [.ref h1, .int (nI (n0 + 1)), .int 0, .int (-1), .int 0])), (h1, .inl (g0, 240, .inl (upd f0 (Int32.toNatClampNeg (nI n0)) (((v0.toUInt32 >>> ((8 : Int32).toUInt32 &&& Int32.toUInt32 31)).toInt32) &&& 255))))] H := hP
        have hD : va_D A [(h0, .inr (10, [.ref h1, .int (nI (n0 + 1)), .int 0, .int (-1), .int 0])), (h1, .inl (g0, 240, .inl (upd f0 (Int32.toNatClampNeg (nI n0)) (((v0.toUInt32 >>> ((8 : Int32).toUInt32 &&& Int32.toUInt32 31)).toInt32) &&& 255))))] := hD
        refine lv_iinc (v := 0) (lv' := [(2, .int 0), (3, .int (((v0.toUInt32 >>> ((8 : Int32).toUInt32 &&& Int32.toUInt32 31)).toInt32) &&& 255)), (0, .ref h0), (1, .int v0)]) hx hb dX10_add_49 hl (k := 1) rfl (by decide) (by decide) rfl (fun ls hl => ?_)
        refine lv_goto (tgt := 3) hx hb dX10_add_52 (by decide) ?_
        refine lv_iload_n hx hb dX10_add_3 rfl (lv_at hl 0 rfl) ?_
        refine lv_if_lt (tgt := 55) hx hb dX10_add_4 (by decide) (fun c => absurd c (by decide)) (fun _ => ?_)
        refine lv_iload_n hx hb dX10_add_7 rfl (lv_at hl 3 rfl) ?_
        refine lv_iload_n hx hb dX10_add_8 rfl (lv_at hl 0 rfl) ?_
        refine lv_iushr (v := (v0.toUInt32 >>> ((0 : Int32).toUInt32 &&& Int32.toUInt32 31)).toInt32) hx hb dX10_add_9 rfl ?_
        refine lv_sipush (v := 255) hx hb dX10_add_10 (by decide) ?_
        refine lv_iand hx hb dX10_add_13 ?_
        refine lv_istore_n (lv' := [(3, .int (((v0.toUInt32 >>> ((0 : Int32).toUInt32 &&& Int32.toUInt32 31)).toInt32) &&& 255)), (2, .int 0), (0, .ref h0), (1, .int v0)]) hx hb dX10_add_14 rfl hl (by decide) rfl (fun ls hl => ?_)
        refine lv_iload_n hx hb dX10_add_15 rfl (lv_at hl 0 rfl) ?_
        refine lv_if_eq (tgt := 49) hx hb dX10_add_16 (by decide) (fun c7 => ?_) (fun c7 => ?_)
        · skip
          refine lv_iinc (v := (-8)) (lv' := [(2, .int (-8)), (3, .int (((v0.toUInt32 >>> ((0 : Int32).toUInt32 &&& Int32.toUInt32 31)).toInt32) &&& 255)), (0, .ref h0), (1, .int v0)]) hx hb dX10_add_49 hl (k := 1) rfl (by decide) (by decide) rfl (fun ls hl => ?_)
          refine lv_goto (tgt := 3) hx hb dX10_add_52 (by decide) ?_
          refine lv_iload_n hx hb dX10_add_3 rfl (lv_at hl 0 rfl) ?_
          refine lv_if_lt (tgt := 55) hx hb dX10_add_4 (by decide) (fun _ => ?_) (fun c => absurd (by decide) c)
          have e9 : nI (n0 + 1) = nI (pv_b4 v0 n0) := by (rw [pv_b4, pv_1_z (x := pv_u 24 v0) _ c1, pv_1_z (x := pv_u 16 v0) _ c2, pv_1_s (x := pv_u 8 v0) _ c3, pv_1_z (x := pv_u 0 v0) _ c7]; try rfl)
          rw [e9] at hP hD
          have hP9 := hP.sub (ws' := [(h0, .inr (10, [.ref h1, .int (nI (pv_b4 v0 n0)), .int 0, .int (-1), .int 0])), (h1, .inl (g0, 240, .inl (upd f0 (Int32.toNatClampNeg (nI n0)) (((v0.toUInt32 >>> ((8 : Int32).toUInt32 &&& Int32.toUInt32 31)).toInt32) &&& 255))))]) [0, 1] rfl
          have hD9 := hD.sub (ws' := [(h0, .inr (10, [.ref h1, .int (nI (pv_b4 v0 n0)), .int 0, .int (-1), .int 0])), (h1, .inl (g0, 240, .inl (upd f0 (Int32.toNatClampNeg (nI n0)) (((v0.toUInt32 >>> ((8 : Int32).toUInt32 &&& Int32.toUInt32 31)).toInt32) &&& 255))))]) [0, 1] (by decide) rfl
          have hK9 := hK.sub (tys' := [(g0, .int)]) [0] rfl
          exact W.vret hx hb hr (fun t ht hW => ⟨⟨(), rfl, trivial, (upd f0 (Int32.toNatClampNeg (nI n0)) (((v0.toUInt32 >>> ((8 : Int32).toUInt32 &&& Int32.toUInt32 31)).toInt32) &&& 255)), by rw [ht]; exact hP9, va_K.moved hW.alike hK9, hD9⟩, hS.F ht⟩) hS.2.2 dX10_add_55
        · skip
          refine lv_aload_n hx hb dX10_add_19 rfl (lv_at hl 2 rfl) ?_
          refine va_get (D := (dC, dI)) (ci := 10) (v := .int (nI (n0 + 1))) (C := RX10) (T := TX10) (N := 5) hx hb hts (fun _ h => List.mem_cons_of_mem _ (List.mem_append_right _ h)) hown hK hP 0 rfl rfl 1 (by decide) (hts (.fieldLink RX10 15 "LeftArguments$Tape" "used" "I") (List.mem_cons_of_mem _ (List.mem_append_left _ (List.mem_of_getElem? (i := 0) rfl)))) (fun _ h9 => h9) rfl dX10_add_20 ?_
          refine lv_sipush (v := 240) hx hb dX10_add_23 (by decide) ?_
          refine lv_icmp_ge (tgt := 49) hx hb dX10_add_26 (by decide) (fun c => absurd c (nI_ge (a := (n0 + 1)) (b := 240) (by (omega)) (by decide))) (fun _ => ?_)
          refine lv_aload_n hx hb dX10_add_29 rfl (lv_at hl 2 rfl) ?_
          refine va_get (D := (dC, dI)) (ci := 10) (v := .ref h1) (C := RX10) (T := TX10) (N := 5) hx hb hts (fun _ h => List.mem_cons_of_mem _ (List.mem_append_right _ h)) hown hK hP 0 rfl rfl 0 (by decide) (hts (.fieldLink RX10 9 "LeftArguments$Tape" "bytes" "[I") (List.mem_cons_of_mem _ (List.mem_append_left _ (List.mem_of_getElem? (i := 1) rfl)))) (fun _ h9 => h9) rfl dX10_add_30 ?_
          refine lv_aload_n hx hb dX10_add_33 rfl (lv_at hl 2 rfl) ?_
          refine va_get (D := (dC, dI)) (ci := 10) (v := .int (nI (n0 + 1))) (C := RX10) (T := TX10) (N := 5) hx hb hts (fun _ h => List.mem_cons_of_mem _ (List.mem_append_right _ h)) hown hK hP 0 rfl rfl 1 (by decide) (hts (.fieldLink RX10 15 "LeftArguments$Tape" "used" "I") (List.mem_cons_of_mem _ (List.mem_append_left _ (List.mem_of_getElem? (i := 0) rfl)))) (fun _ h9 => h9) rfl dX10_add_34 ?_
          refine lv_iload_n hx hb dX10_add_37 rfl (lv_at hl 0 rfl) ?_
          refine va_iast hx hb hK hP hD hS 1 0 rfl rfl (vp_in_nI (n := n0 + 1) (N := 240) (by (omega)) (by decide)) dX10_add_38 (fun H locs hP hD hS => ?_)
          have hP : va_P (dC, dI) vwCl [(h0, .inr (10, [.ref h1, .int (nI (n0 + 1)), .int 0, .int (-1), .int 0])), (h1, .inl (g0, 240, .inl (upd (upd f0 (Int32.toNatClampNeg (nI n0)) (((v0.toUInt32 >>> ((8 : Int32).toUInt32 &&& Int32.toUInt32 31)).toInt32) &&& 255)) (Int32.toNatClampNeg (nI (n0 + 1))) (((v0.toUInt32 >>> ((0 : Int32).toUInt32 &&& Int32.toUInt32 31)).toInt32) &&& 255))))] H := hP
          have hD : va_D A [(h0, .inr (10, [.ref h1, .int (nI (n0 + 1)), .int 0, .int (-1), .int 0])), (h1, .inl (g0, 240, .inl (upd (upd f0 (Int32.toNatClampNeg (nI n0)) (((v0.toUInt32 >>> ((8 : Int32).toUInt32 &&& Int32.toUInt32 31)).toInt32) &&& 255)) (Int32.toNatClampNeg (nI (n0 + 1))) (((v0.toUInt32 >>> ((0 : Int32).toUInt32 &&& Int32.toUInt32 31)).toInt32) &&& 255))))] := hD
          refine lv_aload_n hx hb dX10_add_39 rfl (lv_at hl 2 rfl) ?_
          refine lv_dup hx hb dX10_add_40 rfl ?_
          refine va_get (D := (dC, dI)) (ci := 10) (v := .int (nI (n0 + 1))) (C := RX10) (T := TX10) (N := 5) hx hb hts (fun _ h => List.mem_cons_of_mem _ (List.mem_append_right _ h)) hown hK hP 0 rfl rfl 1 (by decide) (hts (.fieldLink RX10 15 "LeftArguments$Tape" "used" "I") (List.mem_cons_of_mem _ (List.mem_append_left _ (List.mem_of_getElem? (i := 0) rfl)))) (fun _ h9 => h9) rfl dX10_add_41 ?_
          refine lv_iconst (v := 1) hx hb dX10_add_44 (by decide) ?_
          refine lv_iadd hx hb dX10_add_45 ?_
          refine lv_topi (fun tv8 etv8 => ?_)
          obtain rfl : tv8 = nI (n0 + 1 + 1) := etv8.trans (nI_add (n0 + 1) 1)
          refine va_put (D := (dC, dI)) (ci := 10) (v := .int (nI (n0 + 1 + 1))) (ty := .int) (C := RX10) (T := TX10) (N := 5) hx hb hts (fun _ h => List.mem_cons_of_mem _ (List.mem_append_right _ h)) tyX10 tyX10_ok nmX10 hown hK hP hD hS 0 rfl rfl 1 (by decide) (hts (.fieldLink RX10 15 "LeftArguments$Tape" "used" "I") (List.mem_cons_of_mem _ (List.mem_append_left _ (List.mem_of_getElem? (i := 0) rfl)))) (fun _ h9 => h9) rfl (by decide +kernel) rfl rfl (Nat.le_of_ble_eq_true rfl) dX10_add_46 (fun H locs hP hD hS => ?_)
          have hP : va_P (dC, dI) vwCl [(h0, .inr (10, [.ref h1, .int (nI (n0 + 1 + 1)), .int 0, .int (-1), .int 0])), (h1, .inl (g0, 240, .inl (upd (upd f0 (Int32.toNatClampNeg (nI n0)) (((v0.toUInt32 >>> ((8 : Int32).toUInt32 &&& Int32.toUInt32 31)).toInt32) &&& 255)) (Int32.toNatClampNeg (nI (n0 + 1))) (((v0.toUInt32 >>> ((0 : Int32).toUInt32 &&& Int32.toUInt32 31)).toInt32) &&& 255))))] H := hP
          have hD : va_D A [(h0, .inr (10, [.ref h1, .int (nI (n0 + 1 + 1)), .int 0, .int (-1), .int 0])), (h1, .inl (g0, 240, .inl (upd (upd f0 (Int32.toNatClampNeg (nI n0)) (((v0.toUInt32 >>> ((8 : Int32).toUInt32 &&& Int32.toUInt32 31)).toInt32) &&& 255)) (Int32.toNatClampNeg (nI (n0 + 1))) (((v0.toUInt32 >>> ((0 : Int32).toUInt32 &&& Int32.toUInt32 31)).toInt32) &&& 255))))] := hD
          refine lv_iinc (v := (-8)) (lv' := [(2, .int (-8)), (3, .int (((v0.toUInt32 >>> ((0 : Int32).toUInt32 &&& Int32.toUInt32 31)).toInt32) &&& 255)), (0, .ref h0), (1, .int v0)]) hx hb dX10_add_49 hl (k := 1) rfl (by decide) (by decide) rfl (fun ls hl => ?_)
          refine lv_goto (tgt := 3) hx hb dX10_add_52 (by decide) ?_
          refine lv_iload_n hx hb dX10_add_3 rfl (lv_at hl 0 rfl) ?_
          refine lv_if_lt (tgt := 55) hx hb dX10_add_4 (by decide) (fun _ => ?_) (fun c => absurd (by decide) c)
          have e9 : nI (n0 + 1 + 1) = nI (pv_b4 v0 n0) := by (rw [pv_b4, pv_1_z (x := pv_u 24 v0) _ c1, pv_1_z (x := pv_u 16 v0) _ c2, pv_1_s (x := pv_u 8 v0) _ c3, pv_1_s (x := pv_u 0 v0) _ c7]; try rfl)
          rw [e9] at hP hD
          have hP9 := hP.sub (ws' := [(h0, .inr (10, [.ref h1, .int (nI (pv_b4 v0 n0)), .int 0, .int (-1), .int 0])), (h1, .inl (g0, 240, .inl (upd (upd f0 (Int32.toNatClampNeg (nI n0)) (((v0.toUInt32 >>> ((8 : Int32).toUInt32 &&& Int32.toUInt32 31)).toInt32) &&& 255)) (Int32.toNatClampNeg (nI (n0 + 1))) (((v0.toUInt32 >>> ((0 : Int32).toUInt32 &&& Int32.toUInt32 31)).toInt32) &&& 255))))]) [0, 1] rfl
          have hD9 := hD.sub (ws' := [(h0, .inr (10, [.ref h1, .int (nI (pv_b4 v0 n0)), .int 0, .int (-1), .int 0])), (h1, .inl (g0, 240, .inl (upd (upd f0 (Int32.toNatClampNeg (nI n0)) (((v0.toUInt32 >>> ((8 : Int32).toUInt32 &&& Int32.toUInt32 31)).toInt32) &&& 255)) (Int32.toNatClampNeg (nI (n0 + 1))) (((v0.toUInt32 >>> ((0 : Int32).toUInt32 &&& Int32.toUInt32 31)).toInt32) &&& 255))))]) [0, 1] (by decide) rfl
          have hK9 := hK.sub (tys' := [(g0, .int)]) [0] rfl
          exact W.vret hx hb hr (fun t ht hW => ⟨⟨(), rfl, trivial, (upd (upd f0 (Int32.toNatClampNeg (nI n0)) (((v0.toUInt32 >>> ((8 : Int32).toUInt32 &&& Int32.toUInt32 31)).toInt32) &&& 255)) (Int32.toNatClampNeg (nI (n0 + 1))) (((v0.toUInt32 >>> ((0 : Int32).toUInt32 &&& Int32.toUInt32 31)).toInt32) &&& 255)), by rw [ht]; exact hP9, va_K.moved hW.alike hK9, hD9⟩, hS.F ht⟩) hS.2.2 dX10_add_55
    · skip
      refine lv_aload_n hx hb dX10_add_19 rfl (lv_at hl 2 rfl) ?_
      refine va_get (D := (dC, dI)) (ci := 10) (v := .int (nI n0)) (C := RX10) (T := TX10) (N := 5) hx hb hts (fun _ h => List.mem_cons_of_mem _ (List.mem_append_right _ h)) hown hK hP 0 rfl rfl 1 (by decide) (hts (.fieldLink RX10 15 "LeftArguments$Tape" "used" "I") (List.mem_cons_of_mem _ (List.mem_append_left _ (List.mem_of_getElem? (i := 0) rfl)))) (fun _ h9 => h9) rfl dX10_add_20 ?_
      refine lv_sipush (v := 240) hx hb dX10_add_23 (by decide) ?_
      refine lv_icmp_ge (tgt := 49) hx hb dX10_add_26 (by decide) (fun c => absurd c (nI_ge (a := n0) (b := 240) (Nat.lt_of_le_of_lt hn0 (Nat.le_of_ble_eq_true rfl)) (by decide))) (fun _ => ?_)
      refine lv_aload_n hx hb dX10_add_29 rfl (lv_at hl 2 rfl) ?_
      refine va_get (D := (dC, dI)) (ci := 10) (v := .ref h1) (C := RX10) (T := TX10) (N := 5) hx hb hts (fun _ h => List.mem_cons_of_mem _ (List.mem_append_right _ h)) hown hK hP 0 rfl rfl 0 (by decide) (hts (.fieldLink RX10 9 "LeftArguments$Tape" "bytes" "[I") (List.mem_cons_of_mem _ (List.mem_append_left _ (List.mem_of_getElem? (i := 1) rfl)))) (fun _ h9 => h9) rfl dX10_add_30 ?_
      refine lv_aload_n hx hb dX10_add_33 rfl (lv_at hl 2 rfl) ?_
      refine va_get (D := (dC, dI)) (ci := 10) (v := .int (nI n0)) (C := RX10) (T := TX10) (N := 5) hx hb hts (fun _ h => List.mem_cons_of_mem _ (List.mem_append_right _ h)) hown hK hP 0 rfl rfl 1 (by decide) (hts (.fieldLink RX10 15 "LeftArguments$Tape" "used" "I") (List.mem_cons_of_mem _ (List.mem_append_left _ (List.mem_of_getElem? (i := 0) rfl)))) (fun _ h9 => h9) rfl dX10_add_34 ?_
      refine lv_iload_n hx hb dX10_add_37 rfl (lv_at hl 0 rfl) ?_
      refine va_iast hx hb hK hP hD hS 1 0 rfl rfl (vp_in_nI (n := n0) (N := 240) (Nat.lt_of_le_of_lt hn0 (Nat.le_of_ble_eq_true rfl)) (by decide)) dX10_add_38 (fun H locs hP hD hS => ?_)
      have hP : va_P (dC, dI) vwCl [(h0, .inr (10, [.ref h1, .int (nI n0), .int 0, .int (-1), .int 0])), (h1, .inl (g0, 240, .inl (upd f0 (Int32.toNatClampNeg (nI n0)) (((v0.toUInt32 >>> ((16 : Int32).toUInt32 &&& Int32.toUInt32 31)).toInt32) &&& 255))))] H := hP
      have hD : va_D A [(h0, .inr (10, [.ref h1, .int (nI n0), .int 0, .int (-1), .int 0])), (h1, .inl (g0, 240, .inl (upd f0 (Int32.toNatClampNeg (nI n0)) (((v0.toUInt32 >>> ((16 : Int32).toUInt32 &&& Int32.toUInt32 31)).toInt32) &&& 255))))] := hD
      refine lv_aload_n hx hb dX10_add_39 rfl (lv_at hl 2 rfl) ?_
      refine lv_dup hx hb dX10_add_40 rfl ?_
      refine va_get (D := (dC, dI)) (ci := 10) (v := .int (nI n0)) (C := RX10) (T := TX10) (N := 5) hx hb hts (fun _ h => List.mem_cons_of_mem _ (List.mem_append_right _ h)) hown hK hP 0 rfl rfl 1 (by decide) (hts (.fieldLink RX10 15 "LeftArguments$Tape" "used" "I") (List.mem_cons_of_mem _ (List.mem_append_left _ (List.mem_of_getElem? (i := 0) rfl)))) (fun _ h9 => h9) rfl dX10_add_41 ?_
      refine lv_iconst (v := 1) hx hb dX10_add_44 (by decide) ?_
      refine lv_iadd hx hb dX10_add_45 ?_
      refine lv_topi (fun tv9 etv9 => ?_)
      obtain rfl : tv9 = nI (n0 + 1) := etv9.trans (nI_add n0 1)
      refine va_put (D := (dC, dI)) (ci := 10) (v := .int (nI (n0 + 1))) (ty := .int) (C := RX10) (T := TX10) (N := 5) hx hb hts (fun _ h => List.mem_cons_of_mem _ (List.mem_append_right _ h)) tyX10 tyX10_ok nmX10 hown hK hP hD hS 0 rfl rfl 1 (by decide) (hts (.fieldLink RX10 15 "LeftArguments$Tape" "used" "I") (List.mem_cons_of_mem _ (List.mem_append_left _ (List.mem_of_getElem? (i := 0) rfl)))) (fun _ h9 => h9) rfl (by decide +kernel) rfl rfl (Nat.le_of_ble_eq_true rfl) dX10_add_46 (fun H locs hP hD hS => ?_)
      have hP : va_P (dC, dI) vwCl [(h0, .inr (10, [.ref h1, .int (nI (n0 + 1)), .int 0, .int (-1), .int 0])), (h1, .inl (g0, 240, .inl (upd f0 (Int32.toNatClampNeg (nI n0)) (((v0.toUInt32 >>> ((16 : Int32).toUInt32 &&& Int32.toUInt32 31)).toInt32) &&& 255))))] H := hP
      have hD : va_D A [(h0, .inr (10, [.ref h1, .int (nI (n0 + 1)), .int 0, .int (-1), .int 0])), (h1, .inl (g0, 240, .inl (upd f0 (Int32.toNatClampNeg (nI n0)) (((v0.toUInt32 >>> ((16 : Int32).toUInt32 &&& Int32.toUInt32 31)).toInt32) &&& 255))))] := hD
      refine lv_iinc (v := 8) (lv' := [(2, .int 8), (3, .int (((v0.toUInt32 >>> ((16 : Int32).toUInt32 &&& Int32.toUInt32 31)).toInt32) &&& 255)), (0, .ref h0), (1, .int v0)]) hx hb dX10_add_49 hl (k := 1) rfl (by decide) (by decide) rfl (fun ls hl => ?_)
      refine lv_goto (tgt := 3) hx hb dX10_add_52 (by decide) ?_
      refine lv_iload_n hx hb dX10_add_3 rfl (lv_at hl 0 rfl) ?_
      refine lv_if_lt (tgt := 55) hx hb dX10_add_4 (by decide) (fun c => absurd c (by decide)) (fun _ => ?_)
      refine lv_iload_n hx hb dX10_add_7 rfl (lv_at hl 3 rfl) ?_
      refine lv_iload_n hx hb dX10_add_8 rfl (lv_at hl 0 rfl) ?_
      refine lv_iushr (v := (v0.toUInt32 >>> ((8 : Int32).toUInt32 &&& Int32.toUInt32 31)).toInt32) hx hb dX10_add_9 rfl ?_
      refine lv_sipush (v := 255) hx hb dX10_add_10 (by decide) ?_
      refine lv_iand hx hb dX10_add_13 ?_
      refine lv_istore_n (lv' := [(3, .int (((v0.toUInt32 >>> ((8 : Int32).toUInt32 &&& Int32.toUInt32 31)).toInt32) &&& 255)), (2, .int 8), (0, .ref h0), (1, .int v0)]) hx hb dX10_add_14 rfl hl (by decide) rfl (fun ls hl => ?_)
      refine lv_iload_n hx hb dX10_add_15 rfl (lv_at hl 0 rfl) ?_
      refine lv_if_eq (tgt := 49) hx hb dX10_add_16 (by decide) (fun c10 => ?_) (fun c10 => ?_)
      · skip
        refine lv_iinc (v := 0) (lv' := [(2, .int 0), (3, .int (((v0.toUInt32 >>> ((8 : Int32).toUInt32 &&& Int32.toUInt32 31)).toInt32) &&& 255)), (0, .ref h0), (1, .int v0)]) hx hb dX10_add_49 hl (k := 1) rfl (by decide) (by decide) rfl (fun ls hl => ?_)
        refine lv_goto (tgt := 3) hx hb dX10_add_52 (by decide) ?_
        refine lv_iload_n hx hb dX10_add_3 rfl (lv_at hl 0 rfl) ?_
        refine lv_if_lt (tgt := 55) hx hb dX10_add_4 (by decide) (fun c => absurd c (by decide)) (fun _ => ?_)
        refine lv_iload_n hx hb dX10_add_7 rfl (lv_at hl 3 rfl) ?_
        refine lv_iload_n hx hb dX10_add_8 rfl (lv_at hl 0 rfl) ?_
        refine lv_iushr (v := (v0.toUInt32 >>> ((0 : Int32).toUInt32 &&& Int32.toUInt32 31)).toInt32) hx hb dX10_add_9 rfl ?_
        refine lv_sipush (v := 255) hx hb dX10_add_10 (by decide) ?_
        refine lv_iand hx hb dX10_add_13 ?_
        refine lv_istore_n (lv' := [(3, .int (((v0.toUInt32 >>> ((0 : Int32).toUInt32 &&& Int32.toUInt32 31)).toInt32) &&& 255)), (2, .int 0), (0, .ref h0), (1, .int v0)]) hx hb dX10_add_14 rfl hl (by decide) rfl (fun ls hl => ?_)
        refine lv_iload_n hx hb dX10_add_15 rfl (lv_at hl 0 rfl) ?_
        refine lv_if_eq (tgt := 49) hx hb dX10_add_16 (by decide) (fun c11 => ?_) (fun c11 => ?_)
        · skip
          refine lv_iinc (v := (-8)) (lv' := [(2, .int (-8)), (3, .int (((v0.toUInt32 >>> ((0 : Int32).toUInt32 &&& Int32.toUInt32 31)).toInt32) &&& 255)), (0, .ref h0), (1, .int v0)]) hx hb dX10_add_49 hl (k := 1) rfl (by decide) (by decide) rfl (fun ls hl => ?_)
          refine lv_goto (tgt := 3) hx hb dX10_add_52 (by decide) ?_
          refine lv_iload_n hx hb dX10_add_3 rfl (lv_at hl 0 rfl) ?_
          refine lv_if_lt (tgt := 55) hx hb dX10_add_4 (by decide) (fun _ => ?_) (fun c => absurd (by decide) c)
          have e9 : nI (n0 + 1) = nI (pv_b4 v0 n0) := by (rw [pv_b4, pv_1_z (x := pv_u 24 v0) _ c1, pv_1_s (x := pv_u 16 v0) _ c2, pv_1_z (x := pv_u 8 v0) _ c10, pv_1_z (x := pv_u 0 v0) _ c11]; try rfl)
          rw [e9] at hP hD
          have hP9 := hP.sub (ws' := [(h0, .inr (10, [.ref h1, .int (nI (pv_b4 v0 n0)), .int 0, .int (-1), .int 0])), (h1, .inl (g0, 240, .inl (upd f0 (Int32.toNatClampNeg (nI n0)) (((v0.toUInt32 >>> ((16 : Int32).toUInt32 &&& Int32.toUInt32 31)).toInt32) &&& 255))))]) [0, 1] rfl
          have hD9 := hD.sub (ws' := [(h0, .inr (10, [.ref h1, .int (nI (pv_b4 v0 n0)), .int 0, .int (-1), .int 0])), (h1, .inl (g0, 240, .inl (upd f0 (Int32.toNatClampNeg (nI n0)) (((v0.toUInt32 >>> ((16 : Int32).toUInt32 &&& Int32.toUInt32 31)).toInt32) &&& 255))))]) [0, 1] (by decide) rfl
          have hK9 := hK.sub (tys' := [(g0, .int)]) [0] rfl
          exact W.vret hx hb hr (fun t ht hW => ⟨⟨(), rfl, trivial, (upd f0 (Int32.toNatClampNeg (nI n0)) (((v0.toUInt32 >>> ((16 : Int32).toUInt32 &&& Int32.toUInt32 31)).toInt32) &&& 255)), by rw [ht]; exact hP9, va_K.moved hW.alike hK9, hD9⟩, hS.F ht⟩) hS.2.2 dX10_add_55
        · skip
          refine lv_aload_n hx hb dX10_add_19 rfl (lv_at hl 2 rfl) ?_
          refine va_get (D := (dC, dI)) (ci := 10) (v := .int (nI (n0 + 1))) (C := RX10) (T := TX10) (N := 5) hx hb hts (fun _ h => List.mem_cons_of_mem _ (List.mem_append_right _ h)) hown hK hP 0 rfl rfl 1 (by decide) (hts (.fieldLink RX10 15 "LeftArguments$Tape" "used" "I") (List.mem_cons_of_mem _ (List.mem_append_left _ (List.mem_of_getElem? (i := 0) rfl)))) (fun _ h9 => h9) rfl dX10_add_20 ?_
          refine lv_sipush (v := 240) hx hb dX10_add_23 (by decide) ?_
          refine lv_icmp_ge (tgt := 49) hx hb dX10_add_26 (by decide) (fun c => absurd c (nI_ge (a := (n0 + 1)) (b := 240) (by (omega)) (by decide))) (fun _ => ?_)
          refine lv_aload_n hx hb dX10_add_29 rfl (lv_at hl 2 rfl) ?_
          refine va_get (D := (dC, dI)) (ci := 10) (v := .ref h1) (C := RX10) (T := TX10) (N := 5) hx hb hts (fun _ h => List.mem_cons_of_mem _ (List.mem_append_right _ h)) hown hK hP 0 rfl rfl 0 (by decide) (hts (.fieldLink RX10 9 "LeftArguments$Tape" "bytes" "[I") (List.mem_cons_of_mem _ (List.mem_append_left _ (List.mem_of_getElem? (i := 1) rfl)))) (fun _ h9 => h9) rfl dX10_add_30 ?_
          refine lv_aload_n hx hb dX10_add_33 rfl (lv_at hl 2 rfl) ?_
          refine va_get (D := (dC, dI)) (ci := 10) (v := .int (nI (n0 + 1))) (C := RX10) (T := TX10) (N := 5) hx hb hts (fun _ h => List.mem_cons_of_mem _ (List.mem_append_right _ h)) hown hK hP 0 rfl rfl 1 (by decide) (hts (.fieldLink RX10 15 "LeftArguments$Tape" "used" "I") (List.mem_cons_of_mem _ (List.mem_append_left _ (List.mem_of_getElem? (i := 0) rfl)))) (fun _ h9 => h9) rfl dX10_add_34 ?_
          refine lv_iload_n hx hb dX10_add_37 rfl (lv_at hl 0 rfl) ?_
          refine va_iast hx hb hK hP hD hS 1 0 rfl rfl (vp_in_nI (n := n0 + 1) (N := 240) (by (omega)) (by decide)) dX10_add_38 (fun H locs hP hD hS => ?_)
          have hP : va_P (dC, dI) vwCl [(h0, .inr (10, [.ref h1, .int (nI (n0 + 1)), .int 0, .int (-1), .int 0])), (h1, .inl (g0, 240, .inl (upd (upd f0 (Int32.toNatClampNeg (nI n0)) (((v0.toUInt32 >>> ((16 : Int32).toUInt32 &&& Int32.toUInt32 31)).toInt32) &&& 255)) (Int32.toNatClampNeg (nI (n0 + 1))) (((v0.toUInt32 >>> ((0 : Int32).toUInt32 &&& Int32.toUInt32 31)).toInt32) &&& 255))))] H := hP
          have hD : va_D A [(h0, .inr (10, [.ref h1, .int (nI (n0 + 1)), .int 0, .int (-1), .int 0])), (h1, .inl (g0, 240, .inl (upd (upd f0 (Int32.toNatClampNeg (nI n0)) (((v0.toUInt32 >>> ((16 : Int32).toUInt32 &&& Int32.toUInt32 31)).toInt32) &&& 255)) (Int32.toNatClampNeg (nI (n0 + 1))) (((v0.toUInt32 >>> ((0 : Int32).toUInt32 &&& Int32.toUInt32 31)).toInt32) &&& 255))))] := hD
          refine lv_aload_n hx hb dX10_add_39 rfl (lv_at hl 2 rfl) ?_
          refine lv_dup hx hb dX10_add_40 rfl ?_
          refine va_get (D := (dC, dI)) (ci := 10) (v := .int (nI (n0 + 1))) (C := RX10) (T := TX10) (N := 5) hx hb hts (fun _ h => List.mem_cons_of_mem _ (List.mem_append_right _ h)) hown hK hP 0 rfl rfl 1 (by decide) (hts (.fieldLink RX10 15 "LeftArguments$Tape" "used" "I") (List.mem_cons_of_mem _ (List.mem_append_left _ (List.mem_of_getElem? (i := 0) rfl)))) (fun _ h9 => h9) rfl dX10_add_41 ?_
          refine lv_iconst (v := 1) hx hb dX10_add_44 (by decide) ?_
          refine lv_iadd hx hb dX10_add_45 ?_
          refine lv_topi (fun tv12 etv12 => ?_)
          obtain rfl : tv12 = nI (n0 + 1 + 1) := etv12.trans (nI_add (n0 + 1) 1)
          refine va_put (D := (dC, dI)) (ci := 10) (v := .int (nI (n0 + 1 + 1))) (ty := .int) (C := RX10) (T := TX10) (N := 5) hx hb hts (fun _ h => List.mem_cons_of_mem _ (List.mem_append_right _ h)) tyX10 tyX10_ok nmX10 hown hK hP hD hS 0 rfl rfl 1 (by decide) (hts (.fieldLink RX10 15 "LeftArguments$Tape" "used" "I") (List.mem_cons_of_mem _ (List.mem_append_left _ (List.mem_of_getElem? (i := 0) rfl)))) (fun _ h9 => h9) rfl (by decide +kernel) rfl rfl (Nat.le_of_ble_eq_true rfl) dX10_add_46 (fun H locs hP hD hS => ?_)
          have hP : va_P (dC, dI) vwCl [(h0, .inr (10, [.ref h1, .int (nI (n0 + 1 + 1)), .int 0, .int (-1), .int 0])), (h1, .inl (g0, 240, .inl (upd (upd f0 (Int32.toNatClampNeg (nI n0)) (((v0.toUInt32 >>> ((16 : Int32).toUInt32 &&& Int32.toUInt32 31)).toInt32) &&& 255)) (Int32.toNatClampNeg (nI (n0 + 1))) (((v0.toUInt32 >>> ((0 : Int32).toUInt32 &&& Int32.toUInt32 31)).toInt32) &&& 255))))] H := hP
          have hD : va_D A [(h0, .inr (10, [.ref h1, .int (nI (n0 + 1 + 1)), .int 0, .int (-1), .int 0])), (h1, .inl (g0, 240, .inl (upd (upd f0 (Int32.toNatClampNeg (nI n0)) (((v0.toUInt32 >>> ((16 : Int32).toUInt32 &&& Int32.toUInt32 31)).toInt32) &&& 255)) (Int32.toNatClampNeg (nI (n0 + 1))) (((v0.toUInt32 >>> ((0 : Int32).toUInt32 &&& Int32.toUInt32 31)).toInt32) &&& 255))))] := hD
          refine lv_iinc (v := (-8)) (lv' := [(2, .int (-8)), (3, .int (((v0.toUInt32 >>> ((0 : Int32).toUInt32 &&& Int32.toUInt32 31)).toInt32) &&& 255)), (0, .ref h0), (1, .int v0)]) hx hb dX10_add_49 hl (k := 1) rfl (by decide) (by decide) rfl (fun ls hl => ?_)
          refine lv_goto (tgt := 3) hx hb dX10_add_52 (by decide) ?_
          refine lv_iload_n hx hb dX10_add_3 rfl (lv_at hl 0 rfl) ?_
          refine lv_if_lt (tgt := 55) hx hb dX10_add_4 (by decide) (fun _ => ?_) (fun c => absurd (by decide) c)
          have e9 : nI (n0 + 1 + 1) = nI (pv_b4 v0 n0) := by (rw [pv_b4, pv_1_z (x := pv_u 24 v0) _ c1, pv_1_s (x := pv_u 16 v0) _ c2, pv_1_z (x := pv_u 8 v0) _ c10, pv_1_s (x := pv_u 0 v0) _ c11]; try rfl)
          rw [e9] at hP hD
          have hP9 := hP.sub (ws' := [(h0, .inr (10, [.ref h1, .int (nI (pv_b4 v0 n0)), .int 0, .int (-1), .int 0])), (h1, .inl (g0, 240, .inl (upd (upd f0 (Int32.toNatClampNeg (nI n0)) (((v0.toUInt32 >>> ((16 : Int32).toUInt32 &&& Int32.toUInt32 31)).toInt32) &&& 255)) (Int32.toNatClampNeg (nI (n0 + 1))) (((v0.toUInt32 >>> ((0 : Int32).toUInt32 &&& Int32.toUInt32 31)).toInt32) &&& 255))))]) [0, 1] rfl
          have hD9 := hD.sub (ws' := [(h0, .inr (10, [.ref h1, .int (nI (pv_b4 v0 n0)), .int 0, .int (-1), .int 0])), (h1, .inl (g0, 240, .inl (upd (upd f0 (Int32.toNatClampNeg (nI n0)) (((v0.toUInt32 >>> ((16 : Int32).toUInt32 &&& Int32.toUInt32 31)).toInt32) &&& 255)) (Int32.toNatClampNeg (nI (n0 + 1))) (((v0.toUInt32 >>> ((0 : Int32).toUInt32 &&& Int32.toUInt32 31)).toInt32) &&& 255))))]) [0, 1] (by decide) rfl
          have hK9 := hK.sub (tys' := [(g0, .int)]) [0] rfl
          exact W.vret hx hb hr (fun t ht hW => ⟨⟨(), rfl, trivial, (upd (upd f0 (Int32.toNatClampNeg (nI n0)) (((v0.toUInt32 >>> ((16 : Int32).toUInt32 &&& Int32.toUInt32 31)).toInt32) &&& 255)) (Int32.toNatClampNeg (nI (n0 + 1))) (((v0.toUInt32 >>> ((0 : Int32).toUInt32 &&& Int32.toUInt32 31)).toInt32) &&& 255)), by rw [ht]; exact hP9, va_K.moved hW.alike hK9, hD9⟩, hS.F ht⟩) hS.2.2 dX10_add_55
      · skip
        refine lv_aload_n hx hb dX10_add_19 rfl (lv_at hl 2 rfl) ?_
        refine va_get (D := (dC, dI)) (ci := 10) (v := .int (nI (n0 + 1))) (C := RX10) (T := TX10) (N := 5) hx hb hts (fun _ h => List.mem_cons_of_mem _ (List.mem_append_right _ h)) hown hK hP 0 rfl rfl 1 (by decide) (hts (.fieldLink RX10 15 "LeftArguments$Tape" "used" "I") (List.mem_cons_of_mem _ (List.mem_append_left _ (List.mem_of_getElem? (i := 0) rfl)))) (fun _ h9 => h9) rfl dX10_add_20 ?_
        refine lv_sipush (v := 240) hx hb dX10_add_23 (by decide) ?_
        refine lv_icmp_ge (tgt := 49) hx hb dX10_add_26 (by decide) (fun c => absurd c (nI_ge (a := (n0 + 1)) (b := 240) (by (omega)) (by decide))) (fun _ => ?_)
        refine lv_aload_n hx hb dX10_add_29 rfl (lv_at hl 2 rfl) ?_
        refine va_get (D := (dC, dI)) (ci := 10) (v := .ref h1) (C := RX10) (T := TX10) (N := 5) hx hb hts (fun _ h => List.mem_cons_of_mem _ (List.mem_append_right _ h)) hown hK hP 0 rfl rfl 0 (by decide) (hts (.fieldLink RX10 9 "LeftArguments$Tape" "bytes" "[I") (List.mem_cons_of_mem _ (List.mem_append_left _ (List.mem_of_getElem? (i := 1) rfl)))) (fun _ h9 => h9) rfl dX10_add_30 ?_
        refine lv_aload_n hx hb dX10_add_33 rfl (lv_at hl 2 rfl) ?_
        refine va_get (D := (dC, dI)) (ci := 10) (v := .int (nI (n0 + 1))) (C := RX10) (T := TX10) (N := 5) hx hb hts (fun _ h => List.mem_cons_of_mem _ (List.mem_append_right _ h)) hown hK hP 0 rfl rfl 1 (by decide) (hts (.fieldLink RX10 15 "LeftArguments$Tape" "used" "I") (List.mem_cons_of_mem _ (List.mem_append_left _ (List.mem_of_getElem? (i := 0) rfl)))) (fun _ h9 => h9) rfl dX10_add_34 ?_
        refine lv_iload_n hx hb dX10_add_37 rfl (lv_at hl 0 rfl) ?_
        refine va_iast hx hb hK hP hD hS 1 0 rfl rfl (vp_in_nI (n := n0 + 1) (N := 240) (by (omega)) (by decide)) dX10_add_38 (fun H locs hP hD hS => ?_)
        have hP : va_P (dC, dI) vwCl [(h0, .inr (10, [.ref h1, .int (nI (n0 + 1)), .int 0, .int (-1), .int 0])), (h1, .inl (g0, 240, .inl (upd (upd f0 (Int32.toNatClampNeg (nI n0)) (((v0.toUInt32 >>> ((16 : Int32).toUInt32 &&& Int32.toUInt32 31)).toInt32) &&& 255)) (Int32.toNatClampNeg (nI (n0 + 1))) (((v0.toUInt32 >>> ((8 : Int32).toUInt32 &&& Int32.toUInt32 31)).toInt32) &&& 255))))] H := hP
        have hD : va_D A [(h0, .inr (10, [.ref h1, .int (nI (n0 + 1)), .int 0, .int (-1), .int 0])), (h1, .inl (g0, 240, .inl (upd (upd f0 (Int32.toNatClampNeg (nI n0)) (((v0.toUInt32 >>> ((16 : Int32).toUInt32 &&& Int32.toUInt32 31)).toInt32) &&& 255)) (Int32.toNatClampNeg (nI (n0 + 1))) (((v0.toUInt32 >>> ((8 : Int32).toUInt32 &&& Int32.toUInt32 31)).toInt32) &&& 255))))] := hD
        refine lv_aload_n hx hb dX10_add_39 rfl (lv_at hl 2 rfl) ?_
        refine lv_dup hx hb dX10_add_40 rfl ?_
        refine va_get (D := (dC, dI)) (ci := 10) (v := .int (nI (n0 + 1))) (C := RX10) (T := TX10) (N := 5) hx hb hts (fun _ h => List.mem_cons_of_mem _ (List.mem_append_right _ h)) hown hK hP 0 rfl rfl 1 (by decide) (hts (.fieldLink RX10 15 "LeftArguments$Tape" "used" "I") (List.mem_cons_of_mem _ (List.mem_append_left _ (List.mem_of_getElem? (i := 0) rfl)))) (fun _ h9 => h9) rfl dX10_add_41 ?_
        refine lv_iconst (v := 1) hx hb dX10_add_44 (by decide) ?_
        refine lv_iadd hx hb dX10_add_45 ?_
        refine lv_topi (fun tv13 etv13 => ?_)
        obtain rfl : tv13 = nI (n0 + 1 + 1) := etv13.trans (nI_add (n0 + 1) 1)
        refine va_put (D := (dC, dI)) (ci := 10) (v := .int (nI (n0 + 1 + 1))) (ty := .int) (C := RX10) (T := TX10) (N := 5) hx hb hts (fun _ h => List.mem_cons_of_mem _ (List.mem_append_right _ h)) tyX10 tyX10_ok nmX10 hown hK hP hD hS 0 rfl rfl 1 (by decide) (hts (.fieldLink RX10 15 "LeftArguments$Tape" "used" "I") (List.mem_cons_of_mem _ (List.mem_append_left _ (List.mem_of_getElem? (i := 0) rfl)))) (fun _ h9 => h9) rfl (by decide +kernel) rfl rfl (Nat.le_of_ble_eq_true rfl) dX10_add_46 (fun H locs hP hD hS => ?_)
        have hP : va_P (dC, dI) vwCl [(h0, .inr (10, [.ref h1, .int (nI (n0 + 1 + 1)), .int 0, .int (-1), .int 0])), (h1, .inl (g0, 240, .inl (upd (upd f0 (Int32.toNatClampNeg (nI n0)) (((v0.toUInt32 >>> ((16 : Int32).toUInt32 &&& Int32.toUInt32 31)).toInt32) &&& 255)) (Int32.toNatClampNeg (nI (n0 + 1))) (((v0.toUInt32 >>> ((8 : Int32).toUInt32 &&& Int32.toUInt32 31)).toInt32) &&& 255))))] H := hP
        have hD : va_D A [(h0, .inr (10, [.ref h1, .int (nI (n0 + 1 + 1)), .int 0, .int (-1), .int 0])), (h1, .inl (g0, 240, .inl (upd (upd f0 (Int32.toNatClampNeg (nI n0)) (((v0.toUInt32 >>> ((16 : Int32).toUInt32 &&& Int32.toUInt32 31)).toInt32) &&& 255)) (Int32.toNatClampNeg (nI (n0 + 1))) (((v0.toUInt32 >>> ((8 : Int32).toUInt32 &&& Int32.toUInt32 31)).toInt32) &&& 255))))] := hD
        refine lv_iinc (v := 0) (lv' := [(2, .int 0), (3, .int (((v0.toUInt32 >>> ((8 : Int32).toUInt32 &&& Int32.toUInt32 31)).toInt32) &&& 255)), (0, .ref h0), (1, .int v0)]) hx hb dX10_add_49 hl (k := 1) rfl (by decide) (by decide) rfl (fun ls hl => ?_)
        refine lv_goto (tgt := 3) hx hb dX10_add_52 (by decide) ?_
        refine lv_iload_n hx hb dX10_add_3 rfl (lv_at hl 0 rfl) ?_
        refine lv_if_lt (tgt := 55) hx hb dX10_add_4 (by decide) (fun c => absurd c (by decide)) (fun _ => ?_)
        refine lv_iload_n hx hb dX10_add_7 rfl (lv_at hl 3 rfl) ?_
        refine lv_iload_n hx hb dX10_add_8 rfl (lv_at hl 0 rfl) ?_
        refine lv_iushr (v := (v0.toUInt32 >>> ((0 : Int32).toUInt32 &&& Int32.toUInt32 31)).toInt32) hx hb dX10_add_9 rfl ?_
        refine lv_sipush (v := 255) hx hb dX10_add_10 (by decide) ?_
        refine lv_iand hx hb dX10_add_13 ?_
        refine lv_istore_n (lv' := [(3, .int (((v0.toUInt32 >>> ((0 : Int32).toUInt32 &&& Int32.toUInt32 31)).toInt32) &&& 255)), (2, .int 0), (0, .ref h0), (1, .int v0)]) hx hb dX10_add_14 rfl hl (by decide) rfl (fun ls hl => ?_)
        refine lv_iload_n hx hb dX10_add_15 rfl (lv_at hl 0 rfl) ?_
        refine lv_if_eq (tgt := 49) hx hb dX10_add_16 (by decide) (fun c14 => ?_) (fun c14 => ?_)
        · skip
          refine lv_iinc (v := (-8)) (lv' := [(2, .int (-8)), (3, .int (((v0.toUInt32 >>> ((0 : Int32).toUInt32 &&& Int32.toUInt32 31)).toInt32) &&& 255)), (0, .ref h0), (1, .int v0)]) hx hb dX10_add_49 hl (k := 1) rfl (by decide) (by decide) rfl (fun ls hl => ?_)
          refine lv_goto (tgt := 3) hx hb dX10_add_52 (by decide) ?_
          refine lv_iload_n hx hb dX10_add_3 rfl (lv_at hl 0 rfl) ?_
          refine lv_if_lt (tgt := 55) hx hb dX10_add_4 (by decide) (fun _ => ?_) (fun c => absurd (by decide) c)
          have e9 : nI (n0 + 1 + 1) = nI (pv_b4 v0 n0) := by (rw [pv_b4, pv_1_z (x := pv_u 24 v0) _ c1, pv_1_s (x := pv_u 16 v0) _ c2, pv_1_s (x := pv_u 8 v0) _ c10, pv_1_z (x := pv_u 0 v0) _ c14]; try rfl)
          rw [e9] at hP hD
          have hP9 := hP.sub (ws' := [(h0, .inr (10, [.ref h1, .int (nI (pv_b4 v0 n0)), .int 0, .int (-1), .int 0])), (h1, .inl (g0, 240, .inl (upd (upd f0 (Int32.toNatClampNeg (nI n0)) (((v0.toUInt32 >>> ((16 : Int32).toUInt32 &&& Int32.toUInt32 31)).toInt32) &&& 255)) (Int32.toNatClampNeg (nI (n0 + 1))) (((v0.toUInt32 >>> ((8 : Int32).toUInt32 &&& Int32.toUInt32 31)).toInt32) &&& 255))))]) [0, 1] rfl
          have hD9 := hD.sub (ws' := [(h0, .inr (10, [.ref h1, .int (nI (pv_b4 v0 n0)), .int 0, .int (-1), .int 0])), (h1, .inl (g0, 240, .inl (upd (upd f0 (Int32.toNatClampNeg (nI n0)) (((v0.toUInt32 >>> ((16 : Int32).toUInt32 &&& Int32.toUInt32 31)).toInt32) &&& 255)) (Int32.toNatClampNeg (nI (n0 + 1))) (((v0.toUInt32 >>> ((8 : Int32).toUInt32 &&& Int32.toUInt32 31)).toInt32) &&& 255))))]) [0, 1] (by decide) rfl
          have hK9 := hK.sub (tys' := [(g0, .int)]) [0] rfl
          exact W.vret hx hb hr (fun t ht hW => ⟨⟨(), rfl, trivial, (upd (upd f0 (Int32.toNatClampNeg (nI n0)) (((v0.toUInt32 >>> ((16 : Int32).toUInt32 &&& Int32.toUInt32 31)).toInt32) &&& 255)) (Int32.toNatClampNeg (nI (n0 + 1))) (((v0.toUInt32 >>> ((8 : Int32).toUInt32 &&& Int32.toUInt32 31)).toInt32) &&& 255)), by rw [ht]; exact hP9, va_K.moved hW.alike hK9, hD9⟩, hS.F ht⟩) hS.2.2 dX10_add_55
        · skip
          refine lv_aload_n hx hb dX10_add_19 rfl (lv_at hl 2 rfl) ?_
          refine va_get (D := (dC, dI)) (ci := 10) (v := .int (nI (n0 + 1 + 1))) (C := RX10) (T := TX10) (N := 5) hx hb hts (fun _ h => List.mem_cons_of_mem _ (List.mem_append_right _ h)) hown hK hP 0 rfl rfl 1 (by decide) (hts (.fieldLink RX10 15 "LeftArguments$Tape" "used" "I") (List.mem_cons_of_mem _ (List.mem_append_left _ (List.mem_of_getElem? (i := 0) rfl)))) (fun _ h9 => h9) rfl dX10_add_20 ?_
          refine lv_sipush (v := 240) hx hb dX10_add_23 (by decide) ?_
          refine lv_icmp_ge (tgt := 49) hx hb dX10_add_26 (by decide) (fun c => absurd c (nI_ge (a := (n0 + 1 + 1)) (b := 240) (by (omega)) (by decide))) (fun _ => ?_)
          refine lv_aload_n hx hb dX10_add_29 rfl (lv_at hl 2 rfl) ?_
          refine va_get (D := (dC, dI)) (ci := 10) (v := .ref h1) (C := RX10) (T := TX10) (N := 5) hx hb hts (fun _ h => List.mem_cons_of_mem _ (List.mem_append_right _ h)) hown hK hP 0 rfl rfl 0 (by decide) (hts (.fieldLink RX10 9 "LeftArguments$Tape" "bytes" "[I") (List.mem_cons_of_mem _ (List.mem_append_left _ (List.mem_of_getElem? (i := 1) rfl)))) (fun _ h9 => h9) rfl dX10_add_30 ?_
          refine lv_aload_n hx hb dX10_add_33 rfl (lv_at hl 2 rfl) ?_
          refine va_get (D := (dC, dI)) (ci := 10) (v := .int (nI (n0 + 1 + 1))) (C := RX10) (T := TX10) (N := 5) hx hb hts (fun _ h => List.mem_cons_of_mem _ (List.mem_append_right _ h)) hown hK hP 0 rfl rfl 1 (by decide) (hts (.fieldLink RX10 15 "LeftArguments$Tape" "used" "I") (List.mem_cons_of_mem _ (List.mem_append_left _ (List.mem_of_getElem? (i := 0) rfl)))) (fun _ h9 => h9) rfl dX10_add_34 ?_
          refine lv_iload_n hx hb dX10_add_37 rfl (lv_at hl 0 rfl) ?_
          refine va_iast hx hb hK hP hD hS 1 0 rfl rfl (vp_in_nI (n := n0 + 1 + 1) (N := 240) (by (omega)) (by decide)) dX10_add_38 (fun H locs hP hD hS => ?_)
          have hP : va_P (dC, dI) vwCl [(h0, .inr (10, [.ref h1, .int (nI (n0 + 1 + 1)), .int 0, .int (-1), .int 0])), (h1, .inl (g0, 240, .inl (upd (upd (upd f0 (Int32.toNatClampNeg (nI n0)) (((v0.toUInt32 >>> ((16 : Int32).toUInt32 &&& Int32.toUInt32 31)).toInt32) &&& 255)) (Int32.toNatClampNeg (nI (n0 + 1))) (((v0.toUInt32 >>> ((8 : Int32).toUInt32 &&& Int32.toUInt32 31)).toInt32) &&& 255)) (Int32.toNatClampNeg (nI (n0 + 1 + 1))) (((v0.toUInt32 >>> ((0 : Int32).toUInt32 &&& Int32.toUInt32 31)).toInt32) &&& 255))))] H := hP
          have hD : va_D A [(h0, .inr (10, [.ref h1, .int (nI (n0 + 1 + 1)), .int 0, .int (-1), .int 0])), (h1, .inl (g0, 240, .inl (upd (upd (upd f0 (Int32.toNatClampNeg (nI n0)) (((v0.toUInt32 >>> ((16 : Int32).toUInt32 &&& Int32.toUInt32 31)).toInt32) &&& 255)) (Int32.toNatClampNeg (nI (n0 + 1))) (((v0.toUInt32 >>> ((8 : Int32).toUInt32 &&& Int32.toUInt32 31)).toInt32) &&& 255)) (Int32.toNatClampNeg (nI (n0 + 1 + 1))) (((v0.toUInt32 >>> ((0 : Int32).toUInt32 &&& Int32.toUInt32 31)).toInt32) &&& 255))))] := hD
          refine lv_aload_n hx hb dX10_add_39 rfl (lv_at hl 2 rfl) ?_
          refine lv_dup hx hb dX10_add_40 rfl ?_
          refine va_get (D := (dC, dI)) (ci := 10) (v := .int (nI (n0 + 1 + 1))) (C := RX10) (T := TX10) (N := 5) hx hb hts (fun _ h => List.mem_cons_of_mem _ (List.mem_append_right _ h)) hown hK hP 0 rfl rfl 1 (by decide) (hts (.fieldLink RX10 15 "LeftArguments$Tape" "used" "I") (List.mem_cons_of_mem _ (List.mem_append_left _ (List.mem_of_getElem? (i := 0) rfl)))) (fun _ h9 => h9) rfl dX10_add_41 ?_
          refine lv_iconst (v := 1) hx hb dX10_add_44 (by decide) ?_
          refine lv_iadd hx hb dX10_add_45 ?_
          refine lv_topi (fun tv15 etv15 => ?_)
          obtain rfl : tv15 = nI (n0 + 1 + 1 + 1) := etv15.trans (nI_add (n0 + 1 + 1) 1)
          refine va_put (D := (dC, dI)) (ci := 10) (v := .int (nI (n0 + 1 + 1 + 1))) (ty := .int) (C := RX10) (T := TX10) (N := 5) hx hb hts (fun _ h => List.mem_cons_of_mem _ (List.mem_append_right _ h)) tyX10 tyX10_ok nmX10 hown hK hP hD hS 0 rfl rfl 1 (by decide) (hts (.fieldLink RX10 15 "LeftArguments$Tape" "used" "I") (List.mem_cons_of_mem _ (List.mem_append_left _ (List.mem_of_getElem? (i := 0) rfl)))) (fun _ h9 => h9) rfl (by decide +kernel) rfl rfl (Nat.le_of_ble_eq_true rfl) dX10_add_46 (fun H locs hP hD hS => ?_)
          have hP : va_P (dC, dI) vwCl [(h0, .inr (10, [.ref h1, .int (nI (n0 + 1 + 1 + 1)), .int 0, .int (-1), .int 0])), (h1, .inl (g0, 240, .inl (upd (upd (upd f0 (Int32.toNatClampNeg (nI n0)) (((v0.toUInt32 >>> ((16 : Int32).toUInt32 &&& Int32.toUInt32 31)).toInt32) &&& 255)) (Int32.toNatClampNeg (nI (n0 + 1))) (((v0.toUInt32 >>> ((8 : Int32).toUInt32 &&& Int32.toUInt32 31)).toInt32) &&& 255)) (Int32.toNatClampNeg (nI (n0 + 1 + 1))) (((v0.toUInt32 >>> ((0 : Int32).toUInt32 &&& Int32.toUInt32 31)).toInt32) &&& 255))))] H := hP
          have hD : va_D A [(h0, .inr (10, [.ref h1, .int (nI (n0 + 1 + 1 + 1)), .int 0, .int (-1), .int 0])), (h1, .inl (g0, 240, .inl (upd (upd (upd f0 (Int32.toNatClampNeg (nI n0)) (((v0.toUInt32 >>> ((16 : Int32).toUInt32 &&& Int32.toUInt32 31)).toInt32) &&& 255)) (Int32.toNatClampNeg (nI (n0 + 1))) (((v0.toUInt32 >>> ((8 : Int32).toUInt32 &&& Int32.toUInt32 31)).toInt32) &&& 255)) (Int32.toNatClampNeg (nI (n0 + 1 + 1))) (((v0.toUInt32 >>> ((0 : Int32).toUInt32 &&& Int32.toUInt32 31)).toInt32) &&& 255))))] := hD
          refine lv_iinc (v := (-8)) (lv' := [(2, .int (-8)), (3, .int (((v0.toUInt32 >>> ((0 : Int32).toUInt32 &&& Int32.toUInt32 31)).toInt32) &&& 255)), (0, .ref h0), (1, .int v0)]) hx hb dX10_add_49 hl (k := 1) rfl (by decide) (by decide) rfl (fun ls hl => ?_)
          refine lv_goto (tgt := 3) hx hb dX10_add_52 (by decide) ?_
          refine lv_iload_n hx hb dX10_add_3 rfl (lv_at hl 0 rfl) ?_
          refine lv_if_lt (tgt := 55) hx hb dX10_add_4 (by decide) (fun _ => ?_) (fun c => absurd (by decide) c)
          have e9 : nI (n0 + 1 + 1 + 1) = nI (pv_b4 v0 n0) := by (rw [pv_b4, pv_1_z (x := pv_u 24 v0) _ c1, pv_1_s (x := pv_u 16 v0) _ c2, pv_1_s (x := pv_u 8 v0) _ c10, pv_1_s (x := pv_u 0 v0) _ c14]; try rfl)
          rw [e9] at hP hD
          have hP9 := hP.sub (ws' := [(h0, .inr (10, [.ref h1, .int (nI (pv_b4 v0 n0)), .int 0, .int (-1), .int 0])), (h1, .inl (g0, 240, .inl (upd (upd (upd f0 (Int32.toNatClampNeg (nI n0)) (((v0.toUInt32 >>> ((16 : Int32).toUInt32 &&& Int32.toUInt32 31)).toInt32) &&& 255)) (Int32.toNatClampNeg (nI (n0 + 1))) (((v0.toUInt32 >>> ((8 : Int32).toUInt32 &&& Int32.toUInt32 31)).toInt32) &&& 255)) (Int32.toNatClampNeg (nI (n0 + 1 + 1))) (((v0.toUInt32 >>> ((0 : Int32).toUInt32 &&& Int32.toUInt32 31)).toInt32) &&& 255))))]) [0, 1] rfl
          have hD9 := hD.sub (ws' := [(h0, .inr (10, [.ref h1, .int (nI (pv_b4 v0 n0)), .int 0, .int (-1), .int 0])), (h1, .inl (g0, 240, .inl (upd (upd (upd f0 (Int32.toNatClampNeg (nI n0)) (((v0.toUInt32 >>> ((16 : Int32).toUInt32 &&& Int32.toUInt32 31)).toInt32) &&& 255)) (Int32.toNatClampNeg (nI (n0 + 1))) (((v0.toUInt32 >>> ((8 : Int32).toUInt32 &&& Int32.toUInt32 31)).toInt32) &&& 255)) (Int32.toNatClampNeg (nI (n0 + 1 + 1))) (((v0.toUInt32 >>> ((0 : Int32).toUInt32 &&& Int32.toUInt32 31)).toInt32) &&& 255))))]) [0, 1] (by decide) rfl
          have hK9 := hK.sub (tys' := [(g0, .int)]) [0] rfl
          exact W.vret hx hb hr (fun t ht hW => ⟨⟨(), rfl, trivial, (upd (upd (upd f0 (Int32.toNatClampNeg (nI n0)) (((v0.toUInt32 >>> ((16 : Int32).toUInt32 &&& Int32.toUInt32 31)).toInt32) &&& 255)) (Int32.toNatClampNeg (nI (n0 + 1))) (((v0.toUInt32 >>> ((8 : Int32).toUInt32 &&& Int32.toUInt32 31)).toInt32) &&& 255)) (Int32.toNatClampNeg (nI (n0 + 1 + 1))) (((v0.toUInt32 >>> ((0 : Int32).toUInt32 &&& Int32.toUInt32 31)).toInt32) &&& 255)), by rw [ht]; exact hP9, va_K.moved hW.alike hK9, hD9⟩, hS.F ht⟩) hS.2.2 dX10_add_55
  · skip
    refine lv_aload_n hx hb dX10_add_19 rfl (lv_at hl 2 rfl) ?_
    refine va_get (D := (dC, dI)) (ci := 10) (v := .int (nI n0)) (C := RX10) (T := TX10) (N := 5) hx hb hts (fun _ h => List.mem_cons_of_mem _ (List.mem_append_right _ h)) hown hK hP 0 rfl rfl 1 (by decide) (hts (.fieldLink RX10 15 "LeftArguments$Tape" "used" "I") (List.mem_cons_of_mem _ (List.mem_append_left _ (List.mem_of_getElem? (i := 0) rfl)))) (fun _ h9 => h9) rfl dX10_add_20 ?_
    refine lv_sipush (v := 240) hx hb dX10_add_23 (by decide) ?_
    refine lv_icmp_ge (tgt := 49) hx hb dX10_add_26 (by decide) (fun c => absurd c (nI_ge (a := n0) (b := 240) (Nat.lt_of_le_of_lt hn0 (Nat.le_of_ble_eq_true rfl)) (by decide))) (fun _ => ?_)
    refine lv_aload_n hx hb dX10_add_29 rfl (lv_at hl 2 rfl) ?_
    refine va_get (D := (dC, dI)) (ci := 10) (v := .ref h1) (C := RX10) (T := TX10) (N := 5) hx hb hts (fun _ h => List.mem_cons_of_mem _ (List.mem_append_right _ h)) hown hK hP 0 rfl rfl 0 (by decide) (hts (.fieldLink RX10 9 "LeftArguments$Tape" "bytes" "[I") (List.mem_cons_of_mem _ (List.mem_append_left _ (List.mem_of_getElem? (i := 1) rfl)))) (fun _ h9 => h9) rfl dX10_add_30 ?_
    refine lv_aload_n hx hb dX10_add_33 rfl (lv_at hl 2 rfl) ?_
    refine va_get (D := (dC, dI)) (ci := 10) (v := .int (nI n0)) (C := RX10) (T := TX10) (N := 5) hx hb hts (fun _ h => List.mem_cons_of_mem _ (List.mem_append_right _ h)) hown hK hP 0 rfl rfl 1 (by decide) (hts (.fieldLink RX10 15 "LeftArguments$Tape" "used" "I") (List.mem_cons_of_mem _ (List.mem_append_left _ (List.mem_of_getElem? (i := 0) rfl)))) (fun _ h9 => h9) rfl dX10_add_34 ?_
    refine lv_iload_n hx hb dX10_add_37 rfl (lv_at hl 0 rfl) ?_
    refine va_iast hx hb hK hP hD hS 1 0 rfl rfl (vp_in_nI (n := n0) (N := 240) (Nat.lt_of_le_of_lt hn0 (Nat.le_of_ble_eq_true rfl)) (by decide)) dX10_add_38 (fun H locs hP hD hS => ?_)
    have hP : va_P (dC, dI) vwCl [(h0, .inr (10, [.ref h1, .int (nI n0), .int 0, .int (-1), .int 0])), (h1, .inl (g0, 240, .inl (upd f0 (Int32.toNatClampNeg (nI n0)) (((v0.toUInt32 >>> ((24 : Int32).toUInt32 &&& Int32.toUInt32 31)).toInt32) &&& 255))))] H := hP
    have hD : va_D A [(h0, .inr (10, [.ref h1, .int (nI n0), .int 0, .int (-1), .int 0])), (h1, .inl (g0, 240, .inl (upd f0 (Int32.toNatClampNeg (nI n0)) (((v0.toUInt32 >>> ((24 : Int32).toUInt32 &&& Int32.toUInt32 31)).toInt32) &&& 255))))] := hD
    refine lv_aload_n hx hb dX10_add_39 rfl (lv_at hl 2 rfl) ?_
    refine lv_dup hx hb dX10_add_40 rfl ?_
    refine va_get (D := (dC, dI)) (ci := 10) (v := .int (nI n0)) (C := RX10) (T := TX10) (N := 5) hx hb hts (fun _ h => List.mem_cons_of_mem _ (List.mem_append_right _ h)) hown hK hP 0 rfl rfl 1 (by decide) (hts (.fieldLink RX10 15 "LeftArguments$Tape" "used" "I") (List.mem_cons_of_mem _ (List.mem_append_left _ (List.mem_of_getElem? (i := 0) rfl)))) (fun _ h9 => h9) rfl dX10_add_41 ?_
    refine lv_iconst (v := 1) hx hb dX10_add_44 (by decide) ?_
    refine lv_iadd hx hb dX10_add_45 ?_
    refine lv_topi (fun tv16 etv16 => ?_)
    obtain rfl : tv16 = nI (n0 + 1) := etv16.trans (nI_add n0 1)
    refine va_put (D := (dC, dI)) (ci := 10) (v := .int (nI (n0 + 1))) (ty := .int) (C := RX10) (T := TX10) (N := 5) hx hb hts (fun _ h => List.mem_cons_of_mem _ (List.mem_append_right _ h)) tyX10 tyX10_ok nmX10 hown hK hP hD hS 0 rfl rfl 1 (by decide) (hts (.fieldLink RX10 15 "LeftArguments$Tape" "used" "I") (List.mem_cons_of_mem _ (List.mem_append_left _ (List.mem_of_getElem? (i := 0) rfl)))) (fun _ h9 => h9) rfl (by decide +kernel) rfl rfl (Nat.le_of_ble_eq_true rfl) dX10_add_46 (fun H locs hP hD hS => ?_)
    have hP : va_P (dC, dI) vwCl [(h0, .inr (10, [.ref h1, .int (nI (n0 + 1)), .int 0, .int (-1), .int 0])), (h1, .inl (g0, 240, .inl (upd f0 (Int32.toNatClampNeg (nI n0)) (((v0.toUInt32 >>> ((24 : Int32).toUInt32 &&& Int32.toUInt32 31)).toInt32) &&& 255))))] H := hP
    have hD : va_D A [(h0, .inr (10, [.ref h1, .int (nI (n0 + 1)), .int 0, .int (-1), .int 0])), (h1, .inl (g0, 240, .inl (upd f0 (Int32.toNatClampNeg (nI n0)) (((v0.toUInt32 >>> ((24 : Int32).toUInt32 &&& Int32.toUInt32 31)).toInt32) &&& 255))))] := hD
    refine lv_iinc (v := 16) (lv' := [(2, .int 16), (3, .int (((v0.toUInt32 >>> ((24 : Int32).toUInt32 &&& Int32.toUInt32 31)).toInt32) &&& 255)), (0, .ref h0), (1, .int v0)]) hx hb dX10_add_49 hl (k := 1) rfl (by decide) (by decide) rfl (fun ls hl => ?_)
    refine lv_goto (tgt := 3) hx hb dX10_add_52 (by decide) ?_
    refine lv_iload_n hx hb dX10_add_3 rfl (lv_at hl 0 rfl) ?_
    refine lv_if_lt (tgt := 55) hx hb dX10_add_4 (by decide) (fun c => absurd c (by decide)) (fun _ => ?_)
    refine lv_iload_n hx hb dX10_add_7 rfl (lv_at hl 3 rfl) ?_
    refine lv_iload_n hx hb dX10_add_8 rfl (lv_at hl 0 rfl) ?_
    refine lv_iushr (v := (v0.toUInt32 >>> ((16 : Int32).toUInt32 &&& Int32.toUInt32 31)).toInt32) hx hb dX10_add_9 rfl ?_
    refine lv_sipush (v := 255) hx hb dX10_add_10 (by decide) ?_
    refine lv_iand hx hb dX10_add_13 ?_
    refine lv_istore_n (lv' := [(3, .int (((v0.toUInt32 >>> ((16 : Int32).toUInt32 &&& Int32.toUInt32 31)).toInt32) &&& 255)), (2, .int 16), (0, .ref h0), (1, .int v0)]) hx hb dX10_add_14 rfl hl (by decide) rfl (fun ls hl => ?_)
    refine lv_iload_n hx hb dX10_add_15 rfl (lv_at hl 0 rfl) ?_
    refine lv_if_eq (tgt := 49) hx hb dX10_add_16 (by decide) (fun c17 => ?_) (fun c17 => ?_)
    · skip
      refine lv_iinc (v := 8) (lv' := [(2, .int 8), (3, .int (((v0.toUInt32 >>> ((16 : Int32).toUInt32 &&& Int32.toUInt32 31)).toInt32) &&& 255)), (0, .ref h0), (1, .int v0)]) hx hb dX10_add_49 hl (k := 1) rfl (by decide) (by decide) rfl (fun ls hl => ?_)
      refine lv_goto (tgt := 3) hx hb dX10_add_52 (by decide) ?_
      refine lv_iload_n hx hb dX10_add_3 rfl (lv_at hl 0 rfl) ?_
      refine lv_if_lt (tgt := 55) hx hb dX10_add_4 (by decide) (fun c => absurd c (by decide)) (fun _ => ?_)
      refine lv_iload_n hx hb dX10_add_7 rfl (lv_at hl 3 rfl) ?_
      refine lv_iload_n hx hb dX10_add_8 rfl (lv_at hl 0 rfl) ?_
      refine lv_iushr (v := (v0.toUInt32 >>> ((8 : Int32).toUInt32 &&& Int32.toUInt32 31)).toInt32) hx hb dX10_add_9 rfl ?_
      refine lv_sipush (v := 255) hx hb dX10_add_10 (by decide) ?_
      refine lv_iand hx hb dX10_add_13 ?_
      refine lv_istore_n (lv' := [(3, .int (((v0.toUInt32 >>> ((8 : Int32).toUInt32 &&& Int32.toUInt32 31)).toInt32) &&& 255)), (2, .int 8), (0, .ref h0), (1, .int v0)]) hx hb dX10_add_14 rfl hl (by decide) rfl (fun ls hl => ?_)
      refine lv_iload_n hx hb dX10_add_15 rfl (lv_at hl 0 rfl) ?_
      refine lv_if_eq (tgt := 49) hx hb dX10_add_16 (by decide) (fun c18 => ?_) (fun c18 => ?_)
      · skip
        refine lv_iinc (v := 0) (lv' := [(2, .int 0), (3, .int (((v0.toUInt32 >>> ((8 : Int32).toUInt32 &&& Int32.toUInt32 31)).toInt32) &&& 255)), (0, .ref h0), (1, .int v0)]) hx hb dX10_add_49 hl (k := 1) rfl (by decide) (by decide) rfl (fun ls hl => ?_)
        refine lv_goto (tgt := 3) hx hb dX10_add_52 (by decide) ?_
        refine lv_iload_n hx hb dX10_add_3 rfl (lv_at hl 0 rfl) ?_
        refine lv_if_lt (tgt := 55) hx hb dX10_add_4 (by decide) (fun c => absurd c (by decide)) (fun _ => ?_)
        refine lv_iload_n hx hb dX10_add_7 rfl (lv_at hl 3 rfl) ?_
        refine lv_iload_n hx hb dX10_add_8 rfl (lv_at hl 0 rfl) ?_
        refine lv_iushr (v := (v0.toUInt32 >>> ((0 : Int32).toUInt32 &&& Int32.toUInt32 31)).toInt32) hx hb dX10_add_9 rfl ?_
        refine lv_sipush (v := 255) hx hb dX10_add_10 (by decide) ?_
        refine lv_iand hx hb dX10_add_13 ?_
        refine lv_istore_n (lv' := [(3, .int (((v0.toUInt32 >>> ((0 : Int32).toUInt32 &&& Int32.toUInt32 31)).toInt32) &&& 255)), (2, .int 0), (0, .ref h0), (1, .int v0)]) hx hb dX10_add_14 rfl hl (by decide) rfl (fun ls hl => ?_)
        refine lv_iload_n hx hb dX10_add_15 rfl (lv_at hl 0 rfl) ?_
        refine lv_if_eq (tgt := 49) hx hb dX10_add_16 (by decide) (fun c19 => ?_) (fun c19 => ?_)
        · skip
          refine lv_iinc (v := (-8)) (lv' := [(2, .int (-8)), (3, .int (((v0.toUInt32 >>> ((0 : Int32).toUInt32 &&& Int32.toUInt32 31)).toInt32) &&& 255)), (0, .ref h0), (1, .int v0)]) hx hb dX10_add_49 hl (k := 1) rfl (by decide) (by decide) rfl (fun ls hl => ?_)
          refine lv_goto (tgt := 3) hx hb dX10_add_52 (by decide) ?_
          refine lv_iload_n hx hb dX10_add_3 rfl (lv_at hl 0 rfl) ?_
          refine lv_if_lt (tgt := 55) hx hb dX10_add_4 (by decide) (fun _ => ?_) (fun c => absurd (by decide) c)
          have e9 : nI (n0 + 1) = nI (pv_b4 v0 n0) := by (rw [pv_b4, pv_1_s (x := pv_u 24 v0) _ c1, pv_1_z (x := pv_u 16 v0) _ c17, pv_1_z (x := pv_u 8 v0) _ c18, pv_1_z (x := pv_u 0 v0) _ c19]; try rfl)
          rw [e9] at hP hD
          have hP9 := hP.sub (ws' := [(h0, .inr (10, [.ref h1, .int (nI (pv_b4 v0 n0)), .int 0, .int (-1), .int 0])), (h1, .inl (g0, 240, .inl (upd f0 (Int32.toNatClampNeg (nI n0)) (((v0.toUInt32 >>> ((24 : Int32).toUInt32 &&& Int32.toUInt32 31)).toInt32) &&& 255))))]) [0, 1] rfl
          have hD9 := hD.sub (ws' := [(h0, .inr (10, [.ref h1, .int (nI (pv_b4 v0 n0)), .int 0, .int (-1), .int 0])), (h1, .inl (g0, 240, .inl (upd f0 (Int32.toNatClampNeg (nI n0)) (((v0.toUInt32 >>> ((24 : Int32).toUInt32 &&& Int32.toUInt32 31)).toInt32) &&& 255))))]) [0, 1] (by decide) rfl
          have hK9 := hK.sub (tys' := [(g0, .int)]) [0] rfl
          exact W.vret hx hb hr (fun t ht hW => ⟨⟨(), rfl, trivial, (upd f0 (Int32.toNatClampNeg (nI n0)) (((v0.toUInt32 >>> ((24 : Int32).toUInt32 &&& Int32.toUInt32 31)).toInt32) &&& 255)), by rw [ht]; exact hP9, va_K.moved hW.alike hK9, hD9⟩, hS.F ht⟩) hS.2.2 dX10_add_55
        · skip
          refine lv_aload_n hx hb dX10_add_19 rfl (lv_at hl 2 rfl) ?_
          refine va_get (D := (dC, dI)) (ci := 10) (v := .int (nI (n0 + 1))) (C := RX10) (T := TX10) (N := 5) hx hb hts (fun _ h => List.mem_cons_of_mem _ (List.mem_append_right _ h)) hown hK hP 0 rfl rfl 1 (by decide) (hts (.fieldLink RX10 15 "LeftArguments$Tape" "used" "I") (List.mem_cons_of_mem _ (List.mem_append_left _ (List.mem_of_getElem? (i := 0) rfl)))) (fun _ h9 => h9) rfl dX10_add_20 ?_
          refine lv_sipush (v := 240) hx hb dX10_add_23 (by decide) ?_
          refine lv_icmp_ge (tgt := 49) hx hb dX10_add_26 (by decide) (fun c => absurd c (nI_ge (a := (n0 + 1)) (b := 240) (by (omega)) (by decide))) (fun _ => ?_)
          refine lv_aload_n hx hb dX10_add_29 rfl (lv_at hl 2 rfl) ?_
          refine va_get (D := (dC, dI)) (ci := 10) (v := .ref h1) (C := RX10) (T := TX10) (N := 5) hx hb hts (fun _ h => List.mem_cons_of_mem _ (List.mem_append_right _ h)) hown hK hP 0 rfl rfl 0 (by decide) (hts (.fieldLink RX10 9 "LeftArguments$Tape" "bytes" "[I") (List.mem_cons_of_mem _ (List.mem_append_left _ (List.mem_of_getElem? (i := 1) rfl)))) (fun _ h9 => h9) rfl dX10_add_30 ?_
          refine lv_aload_n hx hb dX10_add_33 rfl (lv_at hl 2 rfl) ?_
          refine va_get (D := (dC, dI)) (ci := 10) (v := .int (nI (n0 + 1))) (C := RX10) (T := TX10) (N := 5) hx hb hts (fun _ h => List.mem_cons_of_mem _ (List.mem_append_right _ h)) hown hK hP 0 rfl rfl 1 (by decide) (hts (.fieldLink RX10 15 "LeftArguments$Tape" "used" "I") (List.mem_cons_of_mem _ (List.mem_append_left _ (List.mem_of_getElem? (i := 0) rfl)))) (fun _ h9 => h9) rfl dX10_add_34 ?_
          refine lv_iload_n hx hb dX10_add_37 rfl (lv_at hl 0 rfl) ?_
          refine va_iast hx hb hK hP hD hS 1 0 rfl rfl (vp_in_nI (n := n0 + 1) (N := 240) (by (omega)) (by decide)) dX10_add_38 (fun H locs hP hD hS => ?_)
          have hP : va_P (dC, dI) vwCl [(h0, .inr (10, [.ref h1, .int (nI (n0 + 1)), .int 0, .int (-1), .int 0])), (h1, .inl (g0, 240, .inl (upd (upd f0 (Int32.toNatClampNeg (nI n0)) (((v0.toUInt32 >>> ((24 : Int32).toUInt32 &&& Int32.toUInt32 31)).toInt32) &&& 255)) (Int32.toNatClampNeg (nI (n0 + 1))) (((v0.toUInt32 >>> ((0 : Int32).toUInt32 &&& Int32.toUInt32 31)).toInt32) &&& 255))))] H := hP
          have hD : va_D A [(h0, .inr (10, [.ref h1, .int (nI (n0 + 1)), .int 0, .int (-1), .int 0])), (h1, .inl (g0, 240, .inl (upd (upd f0 (Int32.toNatClampNeg (nI n0)) (((v0.toUInt32 >>> ((24 : Int32).toUInt32 &&& Int32.toUInt32 31)).toInt32) &&& 255)) (Int32.toNatClampNeg (nI (n0 + 1))) (((v0.toUInt32 >>> ((0 : Int32).toUInt32 &&& Int32.toUInt32 31)).toInt32) &&& 255))))] := hD
          refine lv_aload_n hx hb dX10_add_39 rfl (lv_at hl 2 rfl) ?_
          refine lv_dup hx hb dX10_add_40 rfl ?_
          refine va_get (D := (dC, dI)) (ci := 10) (v := .int (nI (n0 + 1))) (C := RX10) (T := TX10) (N := 5) hx hb hts (fun _ h => List.mem_cons_of_mem _ (List.mem_append_right _ h)) hown hK hP 0 rfl rfl 1 (by decide) (hts (.fieldLink RX10 15 "LeftArguments$Tape" "used" "I") (List.mem_cons_of_mem _ (List.mem_append_left _ (List.mem_of_getElem? (i := 0) rfl)))) (fun _ h9 => h9) rfl dX10_add_41 ?_
          refine lv_iconst (v := 1) hx hb dX10_add_44 (by decide) ?_
          refine lv_iadd hx hb dX10_add_45 ?_
          refine lv_topi (fun tv20 etv20 => ?_)
          obtain rfl : tv20 = nI (n0 + 1 + 1) := etv20.trans (nI_add (n0 + 1) 1)
          refine va_put (D := (dC, dI)) (ci := 10) (v := .int (nI (n0 + 1 + 1))) (ty := .int) (C := RX10) (T := TX10) (N := 5) hx hb hts (fun _ h => List.mem_cons_of_mem _ (List.mem_append_right _ h)) tyX10 tyX10_ok nmX10 hown hK hP hD hS 0 rfl rfl 1 (by decide) (hts (.fieldLink RX10 15 "LeftArguments$Tape" "used" "I") (List.mem_cons_of_mem _ (List.mem_append_left _ (List.mem_of_getElem? (i := 0) rfl)))) (fun _ h9 => h9) rfl (by decide +kernel) rfl rfl (Nat.le_of_ble_eq_true rfl) dX10_add_46 (fun H locs hP hD hS => ?_)
          have hP : va_P (dC, dI) vwCl [(h0, .inr (10, [.ref h1, .int (nI (n0 + 1 + 1)), .int 0, .int (-1), .int 0])), (h1, .inl (g0, 240, .inl (upd (upd f0 (Int32.toNatClampNeg (nI n0)) (((v0.toUInt32 >>> ((24 : Int32).toUInt32 &&& Int32.toUInt32 31)).toInt32) &&& 255)) (Int32.toNatClampNeg (nI (n0 + 1))) (((v0.toUInt32 >>> ((0 : Int32).toUInt32 &&& Int32.toUInt32 31)).toInt32) &&& 255))))] H := hP
          have hD : va_D A [(h0, .inr (10, [.ref h1, .int (nI (n0 + 1 + 1)), .int 0, .int (-1), .int 0])), (h1, .inl (g0, 240, .inl (upd (upd f0 (Int32.toNatClampNeg (nI n0)) (((v0.toUInt32 >>> ((24 : Int32).toUInt32 &&& Int32.toUInt32 31)).toInt32) &&& 255)) (Int32.toNatClampNeg (nI (n0 + 1))) (((v0.toUInt32 >>> ((0 : Int32).toUInt32 &&& Int32.toUInt32 31)).toInt32) &&& 255))))] := hD
          refine lv_iinc (v := (-8)) (lv' := [(2, .int (-8)), (3, .int (((v0.toUInt32 >>> ((0 : Int32).toUInt32 &&& Int32.toUInt32 31)).toInt32) &&& 255)), (0, .ref h0), (1, .int v0)]) hx hb dX10_add_49 hl (k := 1) rfl (by decide) (by decide) rfl (fun ls hl => ?_)
          refine lv_goto (tgt := 3) hx hb dX10_add_52 (by decide) ?_
          refine lv_iload_n hx hb dX10_add_3 rfl (lv_at hl 0 rfl) ?_
          refine lv_if_lt (tgt := 55) hx hb dX10_add_4 (by decide) (fun _ => ?_) (fun c => absurd (by decide) c)
          have e9 : nI (n0 + 1 + 1) = nI (pv_b4 v0 n0) := by (rw [pv_b4, pv_1_s (x := pv_u 24 v0) _ c1, pv_1_z (x := pv_u 16 v0) _ c17, pv_1_z (x := pv_u 8 v0) _ c18, pv_1_s (x := pv_u 0 v0) _ c19]; try rfl)
          rw [e9] at hP hD
          have hP9 := hP.sub (ws' := [(h0, .inr (10, [.ref h1, .int (nI (pv_b4 v0 n0)), .int 0, .int (-1), .int 0])), (h1, .inl (g0, 240, .inl (upd (upd f0 (Int32.toNatClampNeg (nI n0)) (((v0.toUInt32 >>> ((24 : Int32).toUInt32 &&& Int32.toUInt32 31)).toInt32) &&& 255)) (Int32.toNatClampNeg (nI (n0 + 1))) (((v0.toUInt32 >>> ((0 : Int32).toUInt32 &&& Int32.toUInt32 31)).toInt32) &&& 255))))]) [0, 1] rfl
          have hD9 := hD.sub (ws' := [(h0, .inr (10, [.ref h1, .int (nI (pv_b4 v0 n0)), .int 0, .int (-1), .int 0])), (h1, .inl (g0, 240, .inl (upd (upd f0 (Int32.toNatClampNeg (nI n0)) (((v0.toUInt32 >>> ((24 : Int32).toUInt32 &&& Int32.toUInt32 31)).toInt32) &&& 255)) (Int32.toNatClampNeg (nI (n0 + 1))) (((v0.toUInt32 >>> ((0 : Int32).toUInt32 &&& Int32.toUInt32 31)).toInt32) &&& 255))))]) [0, 1] (by decide) rfl
          have hK9 := hK.sub (tys' := [(g0, .int)]) [0] rfl
          exact W.vret hx hb hr (fun t ht hW => ⟨⟨(), rfl, trivial, (upd (upd f0 (Int32.toNatClampNeg (nI n0)) (((v0.toUInt32 >>> ((24 : Int32).toUInt32 &&& Int32.toUInt32 31)).toInt32) &&& 255)) (Int32.toNatClampNeg (nI (n0 + 1))) (((v0.toUInt32 >>> ((0 : Int32).toUInt32 &&& Int32.toUInt32 31)).toInt32) &&& 255)), by rw [ht]; exact hP9, va_K.moved hW.alike hK9, hD9⟩, hS.F ht⟩) hS.2.2 dX10_add_55
      · skip
        refine lv_aload_n hx hb dX10_add_19 rfl (lv_at hl 2 rfl) ?_
        refine va_get (D := (dC, dI)) (ci := 10) (v := .int (nI (n0 + 1))) (C := RX10) (T := TX10) (N := 5) hx hb hts (fun _ h => List.mem_cons_of_mem _ (List.mem_append_right _ h)) hown hK hP 0 rfl rfl 1 (by decide) (hts (.fieldLink RX10 15 "LeftArguments$Tape" "used" "I") (List.mem_cons_of_mem _ (List.mem_append_left _ (List.mem_of_getElem? (i := 0) rfl)))) (fun _ h9 => h9) rfl dX10_add_20 ?_
        refine lv_sipush (v := 240) hx hb dX10_add_23 (by decide) ?_
        refine lv_icmp_ge (tgt := 49) hx hb dX10_add_26 (by decide) (fun c => absurd c (nI_ge (a := (n0 + 1)) (b := 240) (by (omega)) (by decide))) (fun _ => ?_)
        refine lv_aload_n hx hb dX10_add_29 rfl (lv_at hl 2 rfl) ?_
        refine va_get (D := (dC, dI)) (ci := 10) (v := .ref h1) (C := RX10) (T := TX10) (N := 5) hx hb hts (fun _ h => List.mem_cons_of_mem _ (List.mem_append_right _ h)) hown hK hP 0 rfl rfl 0 (by decide) (hts (.fieldLink RX10 9 "LeftArguments$Tape" "bytes" "[I") (List.mem_cons_of_mem _ (List.mem_append_left _ (List.mem_of_getElem? (i := 1) rfl)))) (fun _ h9 => h9) rfl dX10_add_30 ?_
        refine lv_aload_n hx hb dX10_add_33 rfl (lv_at hl 2 rfl) ?_
        refine va_get (D := (dC, dI)) (ci := 10) (v := .int (nI (n0 + 1))) (C := RX10) (T := TX10) (N := 5) hx hb hts (fun _ h => List.mem_cons_of_mem _ (List.mem_append_right _ h)) hown hK hP 0 rfl rfl 1 (by decide) (hts (.fieldLink RX10 15 "LeftArguments$Tape" "used" "I") (List.mem_cons_of_mem _ (List.mem_append_left _ (List.mem_of_getElem? (i := 0) rfl)))) (fun _ h9 => h9) rfl dX10_add_34 ?_
        refine lv_iload_n hx hb dX10_add_37 rfl (lv_at hl 0 rfl) ?_
        refine va_iast hx hb hK hP hD hS 1 0 rfl rfl (vp_in_nI (n := n0 + 1) (N := 240) (by (omega)) (by decide)) dX10_add_38 (fun H locs hP hD hS => ?_)
        have hP : va_P (dC, dI) vwCl [(h0, .inr (10, [.ref h1, .int (nI (n0 + 1)), .int 0, .int (-1), .int 0])), (h1, .inl (g0, 240, .inl (upd (upd f0 (Int32.toNatClampNeg (nI n0)) (((v0.toUInt32 >>> ((24 : Int32).toUInt32 &&& Int32.toUInt32 31)).toInt32) &&& 255)) (Int32.toNatClampNeg (nI (n0 + 1))) (((v0.toUInt32 >>> ((8 : Int32).toUInt32 &&& Int32.toUInt32 31)).toInt32) &&& 255))))] H := hP
        have hD : va_D A [(h0, .inr (10, [.ref h1, .int (nI (n0 + 1)), .int 0, .int (-1), .int 0])), (h1, .inl (g0, 240, .inl (upd (upd f0 (Int32.toNatClampNeg (nI n0)) (((v0.toUInt32 >>> ((24 : Int32).toUInt32 &&& Int32.toUInt32 31)).toInt32) &&& 255)) (Int32.toNatClampNeg (nI (n0 + 1))) (((v0.toUInt32 >>> ((8 : Int32).toUInt32 &&& Int32.toUInt32 31)).toInt32) &&& 255))))] := hD
        refine lv_aload_n hx hb dX10_add_39 rfl (lv_at hl 2 rfl) ?_
        refine lv_dup hx hb dX10_add_40 rfl ?_
        refine va_get (D := (dC, dI)) (ci := 10) (v := .int (nI (n0 + 1))) (C := RX10) (T := TX10) (N := 5) hx hb hts (fun _ h => List.mem_cons_of_mem _ (List.mem_append_right _ h)) hown hK hP 0 rfl rfl 1 (by decide) (hts (.fieldLink RX10 15 "LeftArguments$Tape" "used" "I") (List.mem_cons_of_mem _ (List.mem_append_left _ (List.mem_of_getElem? (i := 0) rfl)))) (fun _ h9 => h9) rfl dX10_add_41 ?_
        refine lv_iconst (v := 1) hx hb dX10_add_44 (by decide) ?_
        refine lv_iadd hx hb dX10_add_45 ?_
        refine lv_topi (fun tv21 etv21 => ?_)
        obtain rfl : tv21 = nI (n0 + 1 + 1) := etv21.trans (nI_add (n0 + 1) 1)
        refine va_put (D := (dC, dI)) (ci := 10) (v := .int (nI (n0 + 1 + 1))) (ty := .int) (C := RX10) (T := TX10) (N := 5) hx hb hts (fun _ h => List.mem_cons_of_mem _ (List.mem_append_right _ h)) tyX10 tyX10_ok nmX10 hown hK hP hD hS 0 rfl rfl 1 (by decide) (hts (.fieldLink RX10 15 "LeftArguments$Tape" "used" "I") (List.mem_cons_of_mem _ (List.mem_append_left _ (List.mem_of_getElem? (i := 0) rfl)))) (fun _ h9 => h9) rfl (by decide +kernel) rfl rfl (Nat.le_of_ble_eq_true rfl) dX10_add_46 (fun H locs hP hD hS => ?_)
        have hP : va_P (dC, dI) vwCl [(h0, .inr (10, [.ref h1, .int (nI (n0 + 1 + 1)), .int 0, .int (-1), .int 0])), (h1, .inl (g0, 240, .inl (upd (upd f0 (Int32.toNatClampNeg (nI n0)) (((v0.toUInt32 >>> ((24 : Int32).toUInt32 &&& Int32.toUInt32 31)).toInt32) &&& 255)) (Int32.toNatClampNeg (nI (n0 + 1))) (((v0.toUInt32 >>> ((8 : Int32).toUInt32 &&& Int32.toUInt32 31)).toInt32) &&& 255))))] H := hP
        have hD : va_D A [(h0, .inr (10, [.ref h1, .int (nI (n0 + 1 + 1)), .int 0, .int (-1), .int 0])), (h1, .inl (g0, 240, .inl (upd (upd f0 (Int32.toNatClampNeg (nI n0)) (((v0.toUInt32 >>> ((24 : Int32).toUInt32 &&& Int32.toUInt32 31)).toInt32) &&& 255)) (Int32.toNatClampNeg (nI (n0 + 1))) (((v0.toUInt32 >>> ((8 : Int32).toUInt32 &&& Int32.toUInt32 31)).toInt32) &&& 255))))] := hD
        refine lv_iinc (v := 0) (lv' := [(2, .int 0), (3, .int (((v0.toUInt32 >>> ((8 : Int32).toUInt32 &&& Int32.toUInt32 31)).toInt32) &&& 255)), (0, .ref h0), (1, .int v0)]) hx hb dX10_add_49 hl (k := 1) rfl (by decide) (by decide) rfl (fun ls hl => ?_)
        refine lv_goto (tgt := 3) hx hb dX10_add_52 (by decide) ?_
        refine lv_iload_n hx hb dX10_add_3 rfl (lv_at hl 0 rfl) ?_
        refine lv_if_lt (tgt := 55) hx hb dX10_add_4 (by decide) (fun c => absurd c (by decide)) (fun _ => ?_)
        refine lv_iload_n hx hb dX10_add_7 rfl (lv_at hl 3 rfl) ?_
        refine lv_iload_n hx hb dX10_add_8 rfl (lv_at hl 0 rfl) ?_
        refine lv_iushr (v := (v0.toUInt32 >>> ((0 : Int32).toUInt32 &&& Int32.toUInt32 31)).toInt32) hx hb dX10_add_9 rfl ?_
        refine lv_sipush (v := 255) hx hb dX10_add_10 (by decide) ?_
        refine lv_iand hx hb dX10_add_13 ?_
        refine lv_istore_n (lv' := [(3, .int (((v0.toUInt32 >>> ((0 : Int32).toUInt32 &&& Int32.toUInt32 31)).toInt32) &&& 255)), (2, .int 0), (0, .ref h0), (1, .int v0)]) hx hb dX10_add_14 rfl hl (by decide) rfl (fun ls hl => ?_)
        refine lv_iload_n hx hb dX10_add_15 rfl (lv_at hl 0 rfl) ?_
        refine lv_if_eq (tgt := 49) hx hb dX10_add_16 (by decide) (fun c22 => ?_) (fun c22 => ?_)
        · skip
          refine lv_iinc (v := (-8)) (lv' := [(2, .int (-8)), (3, .int (((v0.toUInt32 >>> ((0 : Int32).toUInt32 &&& Int32.toUInt32 31)).toInt32) &&& 255)), (0, .ref h0), (1, .int v0)]) hx hb dX10_add_49 hl (k := 1) rfl (by decide) (by decide) rfl (fun ls hl => ?_)
          refine lv_goto (tgt := 3) hx hb dX10_add_52 (by decide) ?_
          refine lv_iload_n hx hb dX10_add_3 rfl (lv_at hl 0 rfl) ?_
          refine lv_if_lt (tgt := 55) hx hb dX10_add_4 (by decide) (fun _ => ?_) (fun c => absurd (by decide) c)
          have e9 : nI (n0 + 1 + 1) = nI (pv_b4 v0 n0) := by (rw [pv_b4, pv_1_s (x := pv_u 24 v0) _ c1, pv_1_z (x := pv_u 16 v0) _ c17, pv_1_s (x := pv_u 8 v0) _ c18, pv_1_z (x := pv_u 0 v0) _ c22]; try rfl)
          rw [e9] at hP hD
          have hP9 := hP.sub (ws' := [(h0, .inr (10, [.ref h1, .int (nI (pv_b4 v0 n0)), .int 0, .int (-1), .int 0])), (h1, .inl (g0, 240, .inl (upd (upd f0 (Int32.toNatClampNeg (nI n0)) (((v0.toUInt32 >>> ((24 : Int32).toUInt32 &&& Int32.toUInt32 31)).toInt32) &&& 255)) (Int32.toNatClampNeg (nI (n0 + 1))) (((v0.toUInt32 >>> ((8 : Int32).toUInt32 &&& Int32.toUInt32 31)).toInt32) &&& 255))))]) [0, 1] rfl
          have hD9 := hD.sub (ws' := [(h0, .inr (10, [.ref h1, .int (nI (pv_b4 v0 n0)), .int 0, .int (-1), .int 0])), (h1, .inl (g0, 240, .inl (upd (upd f0 (Int32.toNatClampNeg (nI n0)) (((v0.toUInt32 >>> ((24 : Int32).toUInt32 &&& Int32.toUInt32 31)).toInt32) &&& 255)) (Int32.toNatClampNeg (nI (n0 + 1))) (((v0.toUInt32 >>> ((8 : Int32).toUInt32 &&& Int32.toUInt32 31)).toInt32) &&& 255))))]) [0, 1] (by decide) rfl
          have hK9 := hK.sub (tys' := [(g0, .int)]) [0] rfl
          exact W.vret hx hb hr (fun t ht hW => ⟨⟨(), rfl, trivial, (upd (upd f0 (Int32.toNatClampNeg (nI n0)) (((v0.toUInt32 >>> ((24 : Int32).toUInt32 &&& Int32.toUInt32 31)).toInt32) &&& 255)) (Int32.toNatClampNeg (nI (n0 + 1))) (((v0.toUInt32 >>> ((8 : Int32).toUInt32 &&& Int32.toUInt32 31)).toInt32) &&& 255)), by rw [ht]; exact hP9, va_K.moved hW.alike hK9, hD9⟩, hS.F ht⟩) hS.2.2 dX10_add_55
        · skip
          refine lv_aload_n hx hb dX10_add_19 rfl (lv_at hl 2 rfl) ?_
          refine va_get (D := (dC, dI)) (ci := 10) (v := .int (nI (n0 + 1 + 1))) (C := RX10) (T := TX10) (N := 5) hx hb hts (fun _ h => List.mem_cons_of_mem _ (List.mem_append_right _ h)) hown hK hP 0 rfl rfl 1 (by decide) (hts (.fieldLink RX10 15 "LeftArguments$Tape" "used" "I") (List.mem_cons_of_mem _ (List.mem_append_left _ (List.mem_of_getElem? (i := 0) rfl)))) (fun _ h9 => h9) rfl dX10_add_20 ?_
          refine lv_sipush (v := 240) hx hb dX10_add_23 (by decide) ?_
          refine lv_icmp_ge (tgt := 49) hx hb dX10_add_26 (by decide) (fun c => absurd c (nI_ge (a := (n0 + 1 + 1)) (b := 240) (by (omega)) (by decide))) (fun _ => ?_)
          refine lv_aload_n hx hb dX10_add_29 rfl (lv_at hl 2 rfl) ?_
          refine va_get (D := (dC, dI)) (ci := 10) (v := .ref h1) (C := RX10) (T := TX10) (N := 5) hx hb hts (fun _ h => List.mem_cons_of_mem _ (List.mem_append_right _ h)) hown hK hP 0 rfl rfl 0 (by decide) (hts (.fieldLink RX10 9 "LeftArguments$Tape" "bytes" "[I") (List.mem_cons_of_mem _ (List.mem_append_left _ (List.mem_of_getElem? (i := 1) rfl)))) (fun _ h9 => h9) rfl dX10_add_30 ?_
          refine lv_aload_n hx hb dX10_add_33 rfl (lv_at hl 2 rfl) ?_
          refine va_get (D := (dC, dI)) (ci := 10) (v := .int (nI (n0 + 1 + 1))) (C := RX10) (T := TX10) (N := 5) hx hb hts (fun _ h => List.mem_cons_of_mem _ (List.mem_append_right _ h)) hown hK hP 0 rfl rfl 1 (by decide) (hts (.fieldLink RX10 15 "LeftArguments$Tape" "used" "I") (List.mem_cons_of_mem _ (List.mem_append_left _ (List.mem_of_getElem? (i := 0) rfl)))) (fun _ h9 => h9) rfl dX10_add_34 ?_
          refine lv_iload_n hx hb dX10_add_37 rfl (lv_at hl 0 rfl) ?_
          refine va_iast hx hb hK hP hD hS 1 0 rfl rfl (vp_in_nI (n := n0 + 1 + 1) (N := 240) (by (omega)) (by decide)) dX10_add_38 (fun H locs hP hD hS => ?_)
          have hP : va_P (dC, dI) vwCl [(h0, .inr (10, [.ref h1, .int (nI (n0 + 1 + 1)), .int 0, .int (-1), .int 0])), (h1, .inl (g0, 240, .inl (upd (upd (upd f0 (Int32.toNatClampNeg (nI n0)) (((v0.toUInt32 >>> ((24 : Int32).toUInt32 &&& Int32.toUInt32 31)).toInt32) &&& 255)) (Int32.toNatClampNeg (nI (n0 + 1))) (((v0.toUInt32 >>> ((8 : Int32).toUInt32 &&& Int32.toUInt32 31)).toInt32) &&& 255)) (Int32.toNatClampNeg (nI (n0 + 1 + 1))) (((v0.toUInt32 >>> ((0 : Int32).toUInt32 &&& Int32.toUInt32 31)).toInt32) &&& 255))))] H := hP
          have hD : va_D A [(h0, .inr (10, [.ref h1, .int (nI (n0 + 1 + 1)), .int 0, .int (-1), .int 0])), (h1, .inl (g0, 240, .inl (upd (upd (upd f0 (Int32.toNatClampNeg (nI n0)) (((v0.toUInt32 >>> ((24 : Int32).toUInt32 &&& Int32.toUInt32 31)).toInt32) &&& 255)) (Int32.toNatClampNeg (nI (n0 + 1))) (((v0.toUInt32 >>> ((8 : Int32).toUInt32 &&& Int32.toUInt32 31)).toInt32) &&& 255)) (Int32.toNatClampNeg (nI (n0 + 1 + 1))) (((v0.toUInt32 >>> ((0 : Int32).toUInt32 &&& Int32.toUInt32 31)).toInt32) &&& 255))))] := hD
          refine lv_aload_n hx hb dX10_add_39 rfl (lv_at hl 2 rfl) ?_
          refine lv_dup hx hb dX10_add_40 rfl ?_
          refine va_get (D := (dC, dI)) (ci := 10) (v := .int (nI (n0 + 1 + 1))) (C := RX10) (T := TX10) (N := 5) hx hb hts (fun _ h => List.mem_cons_of_mem _ (List.mem_append_right _ h)) hown hK hP 0 rfl rfl 1 (by decide) (hts (.fieldLink RX10 15 "LeftArguments$Tape" "used" "I") (List.mem_cons_of_mem _ (List.mem_append_left _ (List.mem_of_getElem? (i := 0) rfl)))) (fun _ h9 => h9) rfl dX10_add_41 ?_
          refine lv_iconst (v := 1) hx hb dX10_add_44 (by decide) ?_
          refine lv_iadd hx hb dX10_add_45 ?_
          refine lv_topi (fun tv23 etv23 => ?_)
          obtain rfl : tv23 = nI (n0 + 1 + 1 + 1) := etv23.trans (nI_add (n0 + 1 + 1) 1)
          refine va_put (D := (dC, dI)) (ci := 10) (v := .int (nI (n0 + 1 + 1 + 1))) (ty := .int) (C := RX10) (T := TX10) (N := 5) hx hb hts (fun _ h => List.mem_cons_of_mem _ (List.mem_append_right _ h)) tyX10 tyX10_ok nmX10 hown hK hP hD hS 0 rfl rfl 1 (by decide) (hts (.fieldLink RX10 15 "LeftArguments$Tape" "used" "I") (List.mem_cons_of_mem _ (List.mem_append_left _ (List.mem_of_getElem? (i := 0) rfl)))) (fun _ h9 => h9) rfl (by decide +kernel) rfl rfl (Nat.le_of_ble_eq_true rfl) dX10_add_46 (fun H locs hP hD hS => ?_)
          have hP : va_P (dC, dI) vwCl [(h0, .inr (10, [.ref h1, .int (nI (n0 + 1 + 1 + 1)), .int 0, .int (-1), .int 0])), (h1, .inl (g0, 240, .inl (upd (upd (upd f0 (Int32.toNatClampNeg (nI n0)) (((v0.toUInt32 >>> ((24 : Int32).toUInt32 &&& Int32.toUInt32 31)).toInt32) &&& 255)) (Int32.toNatClampNeg (nI (n0 + 1))) (((v0.toUInt32 >>> ((8 : Int32).toUInt32 &&& Int32.toUInt32 31)).toInt32) &&& 255)) (Int32.toNatClampNeg (nI (n0 + 1 + 1))) (((v0.toUInt32 >>> ((0 : Int32).toUInt32 &&& Int32.toUInt32 31)).toInt32) &&& 255))))] H := hP
          have hD : va_D A [(h0, .inr (10, [.ref h1, .int (nI (n0 + 1 + 1 + 1)), .int 0, .int (-1), .int 0])), (h1, .inl (g0, 240, .inl (upd (upd (upd f0 (Int32.toNatClampNeg (nI n0)) (((v0.toUInt32 >>> ((24 : Int32).toUInt32 &&& Int32.toUInt32 31)).toInt32) &&& 255)) (Int32.toNatClampNeg (nI (n0 + 1))) (((v0.toUInt32 >>> ((8 : Int32).toUInt32 &&& Int32.toUInt32 31)).toInt32) &&& 255)) (Int32.toNatClampNeg (nI (n0 + 1 + 1))) (((v0.toUInt32 >>> ((0 : Int32).toUInt32 &&& Int32.toUInt32 31)).toInt32) &&& 255))))] := hD
          refine lv_iinc (v := (-8)) (lv' := [(2, .int (-8)), (3, .int (((v0.toUInt32 >>> ((0 : Int32).toUInt32 &&& Int32.toUInt32 31)).toInt32) &&& 255)), (0, .ref h0), (1, .int v0)]) hx hb dX10_add_49 hl (k := 1) rfl (by decide) (by decide) rfl (fun ls hl => ?_)
          refine lv_goto (tgt := 3) hx hb dX10_add_52 (by decide) ?_
          refine lv_iload_n hx hb dX10_add_3 rfl (lv_at hl 0 rfl) ?_
          refine lv_if_lt (tgt := 55) hx hb dX10_add_4 (by decide) (fun _ => ?_) (fun c => absurd (by decide) c)
          have e9 : nI (n0 + 1 + 1 + 1) = nI (pv_b4 v0 n0) := by (rw [pv_b4, pv_1_s (x := pv_u 24 v0) _ c1, pv_1_z (x := pv_u 16 v0) _ c17, pv_1_s (x := pv_u 8 v0) _ c18, pv_1_s (x := pv_u 0 v0) _ c22]; try rfl)
          rw [e9] at hP hD
          have hP9 := hP.sub (ws' := [(h0, .inr (10, [.ref h1, .int (nI (pv_b4 v0 n0)), .int 0, .int (-1), .int 0])), (h1, .inl (g0, 240, .inl (upd (upd (upd f0 (Int32.toNatClampNeg (nI n0)) (((v0.toUInt32 >>> ((24 : Int32).toUInt32 &&& Int32.toUInt32 31)).toInt32) &&& 255)) (Int32.toNatClampNeg (nI (n0 + 1))) (((v0.toUInt32 >>> ((8 : Int32).toUInt32 &&& Int32.toUInt32 31)).toInt32) &&& 255)) (Int32.toNatClampNeg (nI (n0 + 1 + 1))) (((v0.toUInt32 >>> ((0 : Int32).toUInt32 &&& Int32.toUInt32 31)).toInt32) &&& 255))))]) [0, 1] rfl
          have hD9 := hD.sub (ws' := [(h0, .inr (10, [.ref h1, .int (nI (pv_b4 v0 n0)), .int 0, .int (-1), .int 0])), (h1, .inl (g0, 240, .inl (upd (upd (upd f0 (Int32.toNatClampNeg (nI n0)) (((v0.toUInt32 >>> ((24 : Int32).toUInt32 &&& Int32.toUInt32 31)).toInt32) &&& 255)) (Int32.toNatClampNeg (nI (n0 + 1))) (((v0.toUInt32 >>> ((8 : Int32).toUInt32 &&& Int32.toUInt32 31)).toInt32) &&& 255)) (Int32.toNatClampNeg (nI (n0 + 1 + 1))) (((v0.toUInt32 >>> ((0 : Int32).toUInt32 &&& Int32.toUInt32 31)).toInt32) &&& 255))))]) [0, 1] (by decide) rfl
          have hK9 := hK.sub (tys' := [(g0, .int)]) [0] rfl
          exact W.vret hx hb hr (fun t ht hW => ⟨⟨(), rfl, trivial, (upd (upd (upd f0 (Int32.toNatClampNeg (nI n0)) (((v0.toUInt32 >>> ((24 : Int32).toUInt32 &&& Int32.toUInt32 31)).toInt32) &&& 255)) (Int32.toNatClampNeg (nI (n0 + 1))) (((v0.toUInt32 >>> ((8 : Int32).toUInt32 &&& Int32.toUInt32 31)).toInt32) &&& 255)) (Int32.toNatClampNeg (nI (n0 + 1 + 1))) (((v0.toUInt32 >>> ((0 : Int32).toUInt32 &&& Int32.toUInt32 31)).toInt32) &&& 255)), by rw [ht]; exact hP9, va_K.moved hW.alike hK9, hD9⟩, hS.F ht⟩) hS.2.2 dX10_add_55
    · skip
      refine lv_aload_n hx hb dX10_add_19 rfl (lv_at hl 2 rfl) ?_
      refine va_get (D := (dC, dI)) (ci := 10) (v := .int (nI (n0 + 1))) (C := RX10) (T := TX10) (N := 5) hx hb hts (fun _ h => List.mem_cons_of_mem _ (List.mem_append_right _ h)) hown hK hP 0 rfl rfl 1 (by decide) (hts (.fieldLink RX10 15 "LeftArguments$Tape" "used" "I") (List.mem_cons_of_mem _ (List.mem_append_left _ (List.mem_of_getElem? (i := 0) rfl)))) (fun _ h9 => h9) rfl dX10_add_20 ?_
      refine lv_sipush (v := 240) hx hb dX10_add_23 (by decide) ?_
      refine lv_icmp_ge (tgt := 49) hx hb dX10_add_26 (by decide) (fun c => absurd c (nI_ge (a := (n0 + 1)) (b := 240) (by (omega)) (by decide))) (fun _ => ?_)
      refine lv_aload_n hx hb dX10_add_29 rfl (lv_at hl 2 rfl) ?_
      refine va_get (D := (dC, dI)) (ci := 10) (v := .ref h1) (C := RX10) (T := TX10) (N := 5) hx hb hts (fun _ h => List.mem_cons_of_mem _ (List.mem_append_right _ h)) hown hK hP 0 rfl rfl 0 (by decide) (hts (.fieldLink RX10 9 "LeftArguments$Tape" "bytes" "[I") (List.mem_cons_of_mem _ (List.mem_append_left _ (List.mem_of_getElem? (i := 1) rfl)))) (fun _ h9 => h9) rfl dX10_add_30 ?_
      refine lv_aload_n hx hb dX10_add_33 rfl (lv_at hl 2 rfl) ?_
      refine va_get (D := (dC, dI)) (ci := 10) (v := .int (nI (n0 + 1))) (C := RX10) (T := TX10) (N := 5) hx hb hts (fun _ h => List.mem_cons_of_mem _ (List.mem_append_right _ h)) hown hK hP 0 rfl rfl 1 (by decide) (hts (.fieldLink RX10 15 "LeftArguments$Tape" "used" "I") (List.mem_cons_of_mem _ (List.mem_append_left _ (List.mem_of_getElem? (i := 0) rfl)))) (fun _ h9 => h9) rfl dX10_add_34 ?_
      refine lv_iload_n hx hb dX10_add_37 rfl (lv_at hl 0 rfl) ?_
      refine va_iast hx hb hK hP hD hS 1 0 rfl rfl (vp_in_nI (n := n0 + 1) (N := 240) (by (omega)) (by decide)) dX10_add_38 (fun H locs hP hD hS => ?_)
      have hP : va_P (dC, dI) vwCl [(h0, .inr (10, [.ref h1, .int (nI (n0 + 1)), .int 0, .int (-1), .int 0])), (h1, .inl (g0, 240, .inl (upd (upd f0 (Int32.toNatClampNeg (nI n0)) (((v0.toUInt32 >>> ((24 : Int32).toUInt32 &&& Int32.toUInt32 31)).toInt32) &&& 255)) (Int32.toNatClampNeg (nI (n0 + 1))) (((v0.toUInt32 >>> ((16 : Int32).toUInt32 &&& Int32.toUInt32 31)).toInt32) &&& 255))))] H := hP
      have hD : va_D A [(h0, .inr (10, [.ref h1, .int (nI (n0 + 1)), .int 0, .int (-1), .int 0])), (h1, .inl (g0, 240, .inl (upd (upd f0 (Int32.toNatClampNeg (nI n0)) (((v0.toUInt32 >>> ((24 : Int32).toUInt32 &&& Int32.toUInt32 31)).toInt32) &&& 255)) (Int32.toNatClampNeg (nI (n0 + 1))) (((v0.toUInt32 >>> ((16 : Int32).toUInt32 &&& Int32.toUInt32 31)).toInt32) &&& 255))))] := hD
      refine lv_aload_n hx hb dX10_add_39 rfl (lv_at hl 2 rfl) ?_
      refine lv_dup hx hb dX10_add_40 rfl ?_
      refine va_get (D := (dC, dI)) (ci := 10) (v := .int (nI (n0 + 1))) (C := RX10) (T := TX10) (N := 5) hx hb hts (fun _ h => List.mem_cons_of_mem _ (List.mem_append_right _ h)) hown hK hP 0 rfl rfl 1 (by decide) (hts (.fieldLink RX10 15 "LeftArguments$Tape" "used" "I") (List.mem_cons_of_mem _ (List.mem_append_left _ (List.mem_of_getElem? (i := 0) rfl)))) (fun _ h9 => h9) rfl dX10_add_41 ?_
      refine lv_iconst (v := 1) hx hb dX10_add_44 (by decide) ?_
      refine lv_iadd hx hb dX10_add_45 ?_
      refine lv_topi (fun tv24 etv24 => ?_)
      obtain rfl : tv24 = nI (n0 + 1 + 1) := etv24.trans (nI_add (n0 + 1) 1)
      refine va_put (D := (dC, dI)) (ci := 10) (v := .int (nI (n0 + 1 + 1))) (ty := .int) (C := RX10) (T := TX10) (N := 5) hx hb hts (fun _ h => List.mem_cons_of_mem _ (List.mem_append_right _ h)) tyX10 tyX10_ok nmX10 hown hK hP hD hS 0 rfl rfl 1 (by decide) (hts (.fieldLink RX10 15 "LeftArguments$Tape" "used" "I") (List.mem_cons_of_mem _ (List.mem_append_left _ (List.mem_of_getElem? (i := 0) rfl)))) (fun _ h9 => h9) rfl (by decide +kernel) rfl rfl (Nat.le_of_ble_eq_true rfl) dX10_add_46 (fun H locs hP hD hS => ?_)
      have hP : va_P (dC, dI) vwCl [(h0, .inr (10, [.ref h1, .int (nI (n0 + 1 + 1)), .int 0, .int (-1), .int 0])), (h1, .inl (g0, 240, .inl (upd (upd f0 (Int32.toNatClampNeg (nI n0)) (((v0.toUInt32 >>> ((24 : Int32).toUInt32 &&& Int32.toUInt32 31)).toInt32) &&& 255)) (Int32.toNatClampNeg (nI (n0 + 1))) (((v0.toUInt32 >>> ((16 : Int32).toUInt32 &&& Int32.toUInt32 31)).toInt32) &&& 255))))] H := hP
      have hD : va_D A [(h0, .inr (10, [.ref h1, .int (nI (n0 + 1 + 1)), .int 0, .int (-1), .int 0])), (h1, .inl (g0, 240, .inl (upd (upd f0 (Int32.toNatClampNeg (nI n0)) (((v0.toUInt32 >>> ((24 : Int32).toUInt32 &&& Int32.toUInt32 31)).toInt32) &&& 255)) (Int32.toNatClampNeg (nI (n0 + 1))) (((v0.toUInt32 >>> ((16 : Int32).toUInt32 &&& Int32.toUInt32 31)).toInt32) &&& 255))))] := hD
      refine lv_iinc (v := 8) (lv' := [(2, .int 8), (3, .int (((v0.toUInt32 >>> ((16 : Int32).toUInt32 &&& Int32.toUInt32 31)).toInt32) &&& 255)), (0, .ref h0), (1, .int v0)]) hx hb dX10_add_49 hl (k := 1) rfl (by decide) (by decide) rfl (fun ls hl => ?_)
      refine lv_goto (tgt := 3) hx hb dX10_add_52 (by decide) ?_
      refine lv_iload_n hx hb dX10_add_3 rfl (lv_at hl 0 rfl) ?_
      refine lv_if_lt (tgt := 55) hx hb dX10_add_4 (by decide) (fun c => absurd c (by decide)) (fun _ => ?_)
      refine lv_iload_n hx hb dX10_add_7 rfl (lv_at hl 3 rfl) ?_
      refine lv_iload_n hx hb dX10_add_8 rfl (lv_at hl 0 rfl) ?_
      refine lv_iushr (v := (v0.toUInt32 >>> ((8 : Int32).toUInt32 &&& Int32.toUInt32 31)).toInt32) hx hb dX10_add_9 rfl ?_
      refine lv_sipush (v := 255) hx hb dX10_add_10 (by decide) ?_
      refine lv_iand hx hb dX10_add_13 ?_
      refine lv_istore_n (lv' := [(3, .int (((v0.toUInt32 >>> ((8 : Int32).toUInt32 &&& Int32.toUInt32 31)).toInt32) &&& 255)), (2, .int 8), (0, .ref h0), (1, .int v0)]) hx hb dX10_add_14 rfl hl (by decide) rfl (fun ls hl => ?_)
      refine lv_iload_n hx hb dX10_add_15 rfl (lv_at hl 0 rfl) ?_
      refine lv_if_eq (tgt := 49) hx hb dX10_add_16 (by decide) (fun c25 => ?_) (fun c25 => ?_)
      · skip
        refine lv_iinc (v := 0) (lv' := [(2, .int 0), (3, .int (((v0.toUInt32 >>> ((8 : Int32).toUInt32 &&& Int32.toUInt32 31)).toInt32) &&& 255)), (0, .ref h0), (1, .int v0)]) hx hb dX10_add_49 hl (k := 1) rfl (by decide) (by decide) rfl (fun ls hl => ?_)
        refine lv_goto (tgt := 3) hx hb dX10_add_52 (by decide) ?_
        refine lv_iload_n hx hb dX10_add_3 rfl (lv_at hl 0 rfl) ?_
        refine lv_if_lt (tgt := 55) hx hb dX10_add_4 (by decide) (fun c => absurd c (by decide)) (fun _ => ?_)
        refine lv_iload_n hx hb dX10_add_7 rfl (lv_at hl 3 rfl) ?_
        refine lv_iload_n hx hb dX10_add_8 rfl (lv_at hl 0 rfl) ?_
        refine lv_iushr (v := (v0.toUInt32 >>> ((0 : Int32).toUInt32 &&& Int32.toUInt32 31)).toInt32) hx hb dX10_add_9 rfl ?_
        refine lv_sipush (v := 255) hx hb dX10_add_10 (by decide) ?_
        refine lv_iand hx hb dX10_add_13 ?_
        refine lv_istore_n (lv' := [(3, .int (((v0.toUInt32 >>> ((0 : Int32).toUInt32 &&& Int32.toUInt32 31)).toInt32) &&& 255)), (2, .int 0), (0, .ref h0), (1, .int v0)]) hx hb dX10_add_14 rfl hl (by decide) rfl (fun ls hl => ?_)
        refine lv_iload_n hx hb dX10_add_15 rfl (lv_at hl 0 rfl) ?_
        refine lv_if_eq (tgt := 49) hx hb dX10_add_16 (by decide) (fun c26 => ?_) (fun c26 => ?_)
        · skip
          refine lv_iinc (v := (-8)) (lv' := [(2, .int (-8)), (3, .int (((v0.toUInt32 >>> ((0 : Int32).toUInt32 &&& Int32.toUInt32 31)).toInt32) &&& 255)), (0, .ref h0), (1, .int v0)]) hx hb dX10_add_49 hl (k := 1) rfl (by decide) (by decide) rfl (fun ls hl => ?_)
          refine lv_goto (tgt := 3) hx hb dX10_add_52 (by decide) ?_
          refine lv_iload_n hx hb dX10_add_3 rfl (lv_at hl 0 rfl) ?_
          refine lv_if_lt (tgt := 55) hx hb dX10_add_4 (by decide) (fun _ => ?_) (fun c => absurd (by decide) c)
          have e9 : nI (n0 + 1 + 1) = nI (pv_b4 v0 n0) := by (rw [pv_b4, pv_1_s (x := pv_u 24 v0) _ c1, pv_1_s (x := pv_u 16 v0) _ c17, pv_1_z (x := pv_u 8 v0) _ c25, pv_1_z (x := pv_u 0 v0) _ c26]; try rfl)
          rw [e9] at hP hD
          have hP9 := hP.sub (ws' := [(h0, .inr (10, [.ref h1, .int (nI (pv_b4 v0 n0)), .int 0, .int (-1), .int 0])), (h1, .inl (g0, 240, .inl (upd (upd f0 (Int32.toNatClampNeg (nI n0)) (((v0.toUInt32 >>> ((24 : Int32).toUInt32 &&& Int32.toUInt32 31)).toInt32) &&& 255)) (Int32.toNatClampNeg (nI (n0 + 1))) (((v0.toUInt32 >>> ((16 : Int32).toUInt32 &&& Int32.toUInt32 31)).toInt32) &&& 255))))]) [0, 1] rfl
          have hD9 := hD.sub (ws' := [(h0, .inr (10, [.ref h1, .int (nI (pv_b4 v0 n0)), .int 0, .int (-1), .int 0])), (h1, .inl (g0, 240, .inl (upd (upd f0 (Int32.toNatClampNeg (nI n0)) (((v0.toUInt32 >>> ((24 : Int32).toUInt32 &&& Int32.toUInt32 31)).toInt32) &&& 255)) (Int32.toNatClampNeg (nI (n0 + 1))) (((v0.toUInt32 >>> ((16 : Int32).toUInt32 &&& Int32.toUInt32 31)).toInt32) &&& 255))))]) [0, 1] (by decide) rfl
          have hK9 := hK.sub (tys' := [(g0, .int)]) [0] rfl
          exact W.vret hx hb hr (fun t ht hW => ⟨⟨(), rfl, trivial, (upd (upd f0 (Int32.toNatClampNeg (nI n0)) (((v0.toUInt32 >>> ((24 : Int32).toUInt32 &&& Int32.toUInt32 31)).toInt32) &&& 255)) (Int32.toNatClampNeg (nI (n0 + 1))) (((v0.toUInt32 >>> ((16 : Int32).toUInt32 &&& Int32.toUInt32 31)).toInt32) &&& 255)), by rw [ht]; exact hP9, va_K.moved hW.alike hK9, hD9⟩, hS.F ht⟩) hS.2.2 dX10_add_55
        · skip
          refine lv_aload_n hx hb dX10_add_19 rfl (lv_at hl 2 rfl) ?_
          refine va_get (D := (dC, dI)) (ci := 10) (v := .int (nI (n0 + 1 + 1))) (C := RX10) (T := TX10) (N := 5) hx hb hts (fun _ h => List.mem_cons_of_mem _ (List.mem_append_right _ h)) hown hK hP 0 rfl rfl 1 (by decide) (hts (.fieldLink RX10 15 "LeftArguments$Tape" "used" "I") (List.mem_cons_of_mem _ (List.mem_append_left _ (List.mem_of_getElem? (i := 0) rfl)))) (fun _ h9 => h9) rfl dX10_add_20 ?_
          refine lv_sipush (v := 240) hx hb dX10_add_23 (by decide) ?_
          refine lv_icmp_ge (tgt := 49) hx hb dX10_add_26 (by decide) (fun c => absurd c (nI_ge (a := (n0 + 1 + 1)) (b := 240) (by (omega)) (by decide))) (fun _ => ?_)
          refine lv_aload_n hx hb dX10_add_29 rfl (lv_at hl 2 rfl) ?_
          refine va_get (D := (dC, dI)) (ci := 10) (v := .ref h1) (C := RX10) (T := TX10) (N := 5) hx hb hts (fun _ h => List.mem_cons_of_mem _ (List.mem_append_right _ h)) hown hK hP 0 rfl rfl 0 (by decide) (hts (.fieldLink RX10 9 "LeftArguments$Tape" "bytes" "[I") (List.mem_cons_of_mem _ (List.mem_append_left _ (List.mem_of_getElem? (i := 1) rfl)))) (fun _ h9 => h9) rfl dX10_add_30 ?_
          refine lv_aload_n hx hb dX10_add_33 rfl (lv_at hl 2 rfl) ?_
          refine va_get (D := (dC, dI)) (ci := 10) (v := .int (nI (n0 + 1 + 1))) (C := RX10) (T := TX10) (N := 5) hx hb hts (fun _ h => List.mem_cons_of_mem _ (List.mem_append_right _ h)) hown hK hP 0 rfl rfl 1 (by decide) (hts (.fieldLink RX10 15 "LeftArguments$Tape" "used" "I") (List.mem_cons_of_mem _ (List.mem_append_left _ (List.mem_of_getElem? (i := 0) rfl)))) (fun _ h9 => h9) rfl dX10_add_34 ?_
          refine lv_iload_n hx hb dX10_add_37 rfl (lv_at hl 0 rfl) ?_
          refine va_iast hx hb hK hP hD hS 1 0 rfl rfl (vp_in_nI (n := n0 + 1 + 1) (N := 240) (by (omega)) (by decide)) dX10_add_38 (fun H locs hP hD hS => ?_)
          have hP : va_P (dC, dI) vwCl [(h0, .inr (10, [.ref h1, .int (nI (n0 + 1 + 1)), .int 0, .int (-1), .int 0])), (h1, .inl (g0, 240, .inl (upd (upd (upd f0 (Int32.toNatClampNeg (nI n0)) (((v0.toUInt32 >>> ((24 : Int32).toUInt32 &&& Int32.toUInt32 31)).toInt32) &&& 255)) (Int32.toNatClampNeg (nI (n0 + 1))) (((v0.toUInt32 >>> ((16 : Int32).toUInt32 &&& Int32.toUInt32 31)).toInt32) &&& 255)) (Int32.toNatClampNeg (nI (n0 + 1 + 1))) (((v0.toUInt32 >>> ((0 : Int32).toUInt32 &&& Int32.toUInt32 31)).toInt32) &&& 255))))] H := hP
          have hD : va_D A [(h0, .inr (10, [.ref h1, .int (nI (n0 + 1 + 1)), .int 0, .int (-1), .int 0])), (h1, .inl (g0, 240, .inl (upd (upd (upd f0 (Int32.toNatClampNeg (nI n0)) (((v0.toUInt32 >>> ((24 : Int32).toUInt32 &&& Int32.toUInt32 31)).toInt32) &&& 255)) (Int32.toNatClampNeg (nI (n0 + 1))) (((v0.toUInt32 >>> ((16 : Int32).toUInt32 &&& Int32.toUInt32 31)).toInt32) &&& 255)) (Int32.toNatClampNeg (nI (n0 + 1 + 1))) (((v0.toUInt32 >>> ((0 : Int32).toUInt32 &&& Int32.toUInt32 31)).toInt32) &&& 255))))] := hD
          refine lv_aload_n hx hb dX10_add_39 rfl (lv_at hl 2 rfl) ?_
          refine lv_dup hx hb dX10_add_40 rfl ?_
          refine va_get (D := (dC, dI)) (ci := 10) (v := .int (nI (n0 + 1 + 1))) (C := RX10) (T := TX10) (N := 5) hx hb hts (fun _ h => List.mem_cons_of_mem _ (List.mem_append_right _ h)) hown hK hP 0 rfl rfl 1 (by decide) (hts (.fieldLink RX10 15 "LeftArguments$Tape" "used" "I") (List.mem_cons_of_mem _ (List.mem_append_left _ (List.mem_of_getElem? (i := 0) rfl)))) (fun _ h9 => h9) rfl dX10_add_41 ?_
          refine lv_iconst (v := 1) hx hb dX10_add_44 (by decide) ?_
          refine lv_iadd hx hb dX10_add_45 ?_
          refine lv_topi (fun tv27 etv27 => ?_)
          obtain rfl : tv27 = nI (n0 + 1 + 1 + 1) := etv27.trans (nI_add (n0 + 1 + 1) 1)
          refine va_put (D := (dC, dI)) (ci := 10) (v := .int (nI (n0 + 1 + 1 + 1))) (ty := .int) (C := RX10) (T := TX10) (N := 5) hx hb hts (fun _ h => List.mem_cons_of_mem _ (List.mem_append_right _ h)) tyX10 tyX10_ok nmX10 hown hK hP hD hS 0 rfl rfl 1 (by decide) (hts (.fieldLink RX10 15 "LeftArguments$Tape" "used" "I") (List.mem_cons_of_mem _ (List.mem_append_left _ (List.mem_of_getElem? (i := 0) rfl)))) (fun _ h9 => h9) rfl (by decide +kernel) rfl rfl (Nat.le_of_ble_eq_true rfl) dX10_add_46 (fun H locs hP hD hS => ?_)
          have hP : va_P (dC, dI) vwCl [(h0, .inr (10, [.ref h1, .int (nI (n0 + 1 + 1 + 1)), .int 0, .int (-1), .int 0])), (h1, .inl (g0, 240, .inl (upd (upd (upd f0 (Int32.toNatClampNeg (nI n0)) (((v0.toUInt32 >>> ((24 : Int32).toUInt32 &&& Int32.toUInt32 31)).toInt32) &&& 255)) (Int32.toNatClampNeg (nI (n0 + 1))) (((v0.toUInt32 >>> ((16 : Int32).toUInt32 &&& Int32.toUInt32 31)).toInt32) &&& 255)) (Int32.toNatClampNeg (nI (n0 + 1 + 1))) (((v0.toUInt32 >>> ((0 : Int32).toUInt32 &&& Int32.toUInt32 31)).toInt32) &&& 255))))] H := hP
          have hD : va_D A [(h0, .inr (10, [.ref h1, .int (nI (n0 + 1 + 1 + 1)), .int 0, .int (-1), .int 0])), (h1, .inl (g0, 240, .inl (upd (upd (upd f0 (Int32.toNatClampNeg (nI n0)) (((v0.toUInt32 >>> ((24 : Int32).toUInt32 &&& Int32.toUInt32 31)).toInt32) &&& 255)) (Int32.toNatClampNeg (nI (n0 + 1))) (((v0.toUInt32 >>> ((16 : Int32).toUInt32 &&& Int32.toUInt32 31)).toInt32) &&& 255)) (Int32.toNatClampNeg (nI (n0 + 1 + 1))) (((v0.toUInt32 >>> ((0 : Int32).toUInt32 &&& Int32.toUInt32 31)).toInt32) &&& 255))))] := hD
          refine lv_iinc (v := (-8)) (lv' := [(2, .int (-8)), (3, .int (((v0.toUInt32 >>> ((0 : Int32).toUInt32 &&& Int32.toUInt32 31)).toInt32) &&& 255)), (0, .ref h0), (1, .int v0)]) hx hb dX10_add_49 hl (k := 1) rfl (by decide) (by decide) rfl (fun ls hl => ?_)
          refine lv_goto (tgt := 3) hx hb dX10_add_52 (by decide) ?_
          refine lv_iload_n hx hb dX10_add_3 rfl (lv_at hl 0 rfl) ?_
          refine lv_if_lt (tgt := 55) hx hb dX10_add_4 (by decide) (fun _ => ?_) (fun c => absurd (by decide) c)
          have e9 : nI (n0 + 1 + 1 + 1) = nI (pv_b4 v0 n0) := by (rw [pv_b4, pv_1_s (x := pv_u 24 v0) _ c1, pv_1_s (x := pv_u 16 v0) _ c17, pv_1_z (x := pv_u 8 v0) _ c25, pv_1_s (x := pv_u 0 v0) _ c26]; try rfl)
          rw [e9] at hP hD
          have hP9 := hP.sub (ws' := [(h0, .inr (10, [.ref h1, .int (nI (pv_b4 v0 n0)), .int 0, .int (-1), .int 0])), (h1, .inl (g0, 240, .inl (upd (upd (upd f0 (Int32.toNatClampNeg (nI n0)) (((v0.toUInt32 >>> ((24 : Int32).toUInt32 &&& Int32.toUInt32 31)).toInt32) &&& 255)) (Int32.toNatClampNeg (nI (n0 + 1))) (((v0.toUInt32 >>> ((16 : Int32).toUInt32 &&& Int32.toUInt32 31)).toInt32) &&& 255)) (Int32.toNatClampNeg (nI (n0 + 1 + 1))) (((v0.toUInt32 >>> ((0 : Int32).toUInt32 &&& Int32.toUInt32 31)).toInt32) &&& 255))))]) [0, 1] rfl
          have hD9 := hD.sub (ws' := [(h0, .inr (10, [.ref h1, .int (nI (pv_b4 v0 n0)), .int 0, .int (-1), .int 0])), (h1, .inl (g0, 240, .inl (upd (upd (upd f0 (Int32.toNatClampNeg (nI n0)) (((v0.toUInt32 >>> ((24 : Int32).toUInt32 &&& Int32.toUInt32 31)).toInt32) &&& 255)) (Int32.toNatClampNeg (nI (n0 + 1))) (((v0.toUInt32 >>> ((16 : Int32).toUInt32 &&& Int32.toUInt32 31)).toInt32) &&& 255)) (Int32.toNatClampNeg (nI (n0 + 1 + 1))) (((v0.toUInt32 >>> ((0 : Int32).toUInt32 &&& Int32.toUInt32 31)).toInt32) &&& 255))))]) [0, 1] (by decide) rfl
          have hK9 := hK.sub (tys' := [(g0, .int)]) [0] rfl
          exact W.vret hx hb hr (fun t ht hW => ⟨⟨(), rfl, trivial, (upd (upd (upd f0 (Int32.toNatClampNeg (nI n0)) (((v0.toUInt32 >>> ((24 : Int32).toUInt32 &&& Int32.toUInt32 31)).toInt32) &&& 255)) (Int32.toNatClampNeg (nI (n0 + 1))) (((v0.toUInt32 >>> ((16 : Int32).toUInt32 &&& Int32.toUInt32 31)).toInt32) &&& 255)) (Int32.toNatClampNeg (nI (n0 + 1 + 1))) (((v0.toUInt32 >>> ((0 : Int32).toUInt32 &&& Int32.toUInt32 31)).toInt32) &&& 255)), by rw [ht]; exact hP9, va_K.moved hW.alike hK9, hD9⟩, hS.F ht⟩) hS.2.2 dX10_add_55
      · skip
        refine lv_aload_n hx hb dX10_add_19 rfl (lv_at hl 2 rfl) ?_
        refine va_get (D := (dC, dI)) (ci := 10) (v := .int (nI (n0 + 1 + 1))) (C := RX10) (T := TX10) (N := 5) hx hb hts (fun _ h => List.mem_cons_of_mem _ (List.mem_append_right _ h)) hown hK hP 0 rfl rfl 1 (by decide) (hts (.fieldLink RX10 15 "LeftArguments$Tape" "used" "I") (List.mem_cons_of_mem _ (List.mem_append_left _ (List.mem_of_getElem? (i := 0) rfl)))) (fun _ h9 => h9) rfl dX10_add_20 ?_
        refine lv_sipush (v := 240) hx hb dX10_add_23 (by decide) ?_
        refine lv_icmp_ge (tgt := 49) hx hb dX10_add_26 (by decide) (fun c => absurd c (nI_ge (a := (n0 + 1 + 1)) (b := 240) (by (omega)) (by decide))) (fun _ => ?_)
        refine lv_aload_n hx hb dX10_add_29 rfl (lv_at hl 2 rfl) ?_
        refine va_get (D := (dC, dI)) (ci := 10) (v := .ref h1) (C := RX10) (T := TX10) (N := 5) hx hb hts (fun _ h => List.mem_cons_of_mem _ (List.mem_append_right _ h)) hown hK hP 0 rfl rfl 0 (by decide) (hts (.fieldLink RX10 9 "LeftArguments$Tape" "bytes" "[I") (List.mem_cons_of_mem _ (List.mem_append_left _ (List.mem_of_getElem? (i := 1) rfl)))) (fun _ h9 => h9) rfl dX10_add_30 ?_
        refine lv_aload_n hx hb dX10_add_33 rfl (lv_at hl 2 rfl) ?_
        refine va_get (D := (dC, dI)) (ci := 10) (v := .int (nI (n0 + 1 + 1))) (C := RX10) (T := TX10) (N := 5) hx hb hts (fun _ h => List.mem_cons_of_mem _ (List.mem_append_right _ h)) hown hK hP 0 rfl rfl 1 (by decide) (hts (.fieldLink RX10 15 "LeftArguments$Tape" "used" "I") (List.mem_cons_of_mem _ (List.mem_append_left _ (List.mem_of_getElem? (i := 0) rfl)))) (fun _ h9 => h9) rfl dX10_add_34 ?_
        refine lv_iload_n hx hb dX10_add_37 rfl (lv_at hl 0 rfl) ?_
        refine va_iast hx hb hK hP hD hS 1 0 rfl rfl (vp_in_nI (n := n0 + 1 + 1) (N := 240) (by (omega)) (by decide)) dX10_add_38 (fun H locs hP hD hS => ?_)
        have hP : va_P (dC, dI) vwCl [(h0, .inr (10, [.ref h1, .int (nI (n0 + 1 + 1)), .int 0, .int (-1), .int 0])), (h1, .inl (g0, 240, .inl (upd (upd (upd f0 (Int32.toNatClampNeg (nI n0)) (((v0.toUInt32 >>> ((24 : Int32).toUInt32 &&& Int32.toUInt32 31)).toInt32) &&& 255)) (Int32.toNatClampNeg (nI (n0 + 1))) (((v0.toUInt32 >>> ((16 : Int32).toUInt32 &&& Int32.toUInt32 31)).toInt32) &&& 255)) (Int32.toNatClampNeg (nI (n0 + 1 + 1))) (((v0.toUInt32 >>> ((8 : Int32).toUInt32 &&& Int32.toUInt32 31)).toInt32) &&& 255))))] H := hP
        have hD : va_D A [(h0, .inr (10, [.ref h1, .int (nI (n0 + 1 + 1)), .int 0, .int (-1), .int 0])), (h1, .inl (g0, 240, .inl (upd (upd (upd f0 (Int32.toNatClampNeg (nI n0)) (((v0.toUInt32 >>> ((24 : Int32).toUInt32 &&& Int32.toUInt32 31)).toInt32) &&& 255)) (Int32.toNatClampNeg (nI (n0 + 1))) (((v0.toUInt32 >>> ((16 : Int32).toUInt32 &&& Int32.toUInt32 31)).toInt32) &&& 255)) (Int32.toNatClampNeg (nI (n0 + 1 + 1))) (((v0.toUInt32 >>> ((8 : Int32).toUInt32 &&& Int32.toUInt32 31)).toInt32) &&& 255))))] := hD
        refine lv_aload_n hx hb dX10_add_39 rfl (lv_at hl 2 rfl) ?_
        refine lv_dup hx hb dX10_add_40 rfl ?_
        refine va_get (D := (dC, dI)) (ci := 10) (v := .int (nI (n0 + 1 + 1))) (C := RX10) (T := TX10) (N := 5) hx hb hts (fun _ h => List.mem_cons_of_mem _ (List.mem_append_right _ h)) hown hK hP 0 rfl rfl 1 (by decide) (hts (.fieldLink RX10 15 "LeftArguments$Tape" "used" "I") (List.mem_cons_of_mem _ (List.mem_append_left _ (List.mem_of_getElem? (i := 0) rfl)))) (fun _ h9 => h9) rfl dX10_add_41 ?_
        refine lv_iconst (v := 1) hx hb dX10_add_44 (by decide) ?_
        refine lv_iadd hx hb dX10_add_45 ?_
        refine lv_topi (fun tv28 etv28 => ?_)
        obtain rfl : tv28 = nI (n0 + 1 + 1 + 1) := etv28.trans (nI_add (n0 + 1 + 1) 1)
        refine va_put (D := (dC, dI)) (ci := 10) (v := .int (nI (n0 + 1 + 1 + 1))) (ty := .int) (C := RX10) (T := TX10) (N := 5) hx hb hts (fun _ h => List.mem_cons_of_mem _ (List.mem_append_right _ h)) tyX10 tyX10_ok nmX10 hown hK hP hD hS 0 rfl rfl 1 (by decide) (hts (.fieldLink RX10 15 "LeftArguments$Tape" "used" "I") (List.mem_cons_of_mem _ (List.mem_append_left _ (List.mem_of_getElem? (i := 0) rfl)))) (fun _ h9 => h9) rfl (by decide +kernel) rfl rfl (Nat.le_of_ble_eq_true rfl) dX10_add_46 (fun H locs hP hD hS => ?_)
        have hP : va_P (dC, dI) vwCl [(h0, .inr (10, [.ref h1, .int (nI (n0 + 1 + 1 + 1)), .int 0, .int (-1), .int 0])), (h1, .inl (g0, 240, .inl (upd (upd (upd f0 (Int32.toNatClampNeg (nI n0)) (((v0.toUInt32 >>> ((24 : Int32).toUInt32 &&& Int32.toUInt32 31)).toInt32) &&& 255)) (Int32.toNatClampNeg (nI (n0 + 1))) (((v0.toUInt32 >>> ((16 : Int32).toUInt32 &&& Int32.toUInt32 31)).toInt32) &&& 255)) (Int32.toNatClampNeg (nI (n0 + 1 + 1))) (((v0.toUInt32 >>> ((8 : Int32).toUInt32 &&& Int32.toUInt32 31)).toInt32) &&& 255))))] H := hP
        have hD : va_D A [(h0, .inr (10, [.ref h1, .int (nI (n0 + 1 + 1 + 1)), .int 0, .int (-1), .int 0])), (h1, .inl (g0, 240, .inl (upd (upd (upd f0 (Int32.toNatClampNeg (nI n0)) (((v0.toUInt32 >>> ((24 : Int32).toUInt32 &&& Int32.toUInt32 31)).toInt32) &&& 255)) (Int32.toNatClampNeg (nI (n0 + 1))) (((v0.toUInt32 >>> ((16 : Int32).toUInt32 &&& Int32.toUInt32 31)).toInt32) &&& 255)) (Int32.toNatClampNeg (nI (n0 + 1 + 1))) (((v0.toUInt32 >>> ((8 : Int32).toUInt32 &&& Int32.toUInt32 31)).toInt32) &&& 255))))] := hD
        refine lv_iinc (v := 0) (lv' := [(2, .int 0), (3, .int (((v0.toUInt32 >>> ((8 : Int32).toUInt32 &&& Int32.toUInt32 31)).toInt32) &&& 255)), (0, .ref h0), (1, .int v0)]) hx hb dX10_add_49 hl (k := 1) rfl (by decide) (by decide) rfl (fun ls hl => ?_)
        refine lv_goto (tgt := 3) hx hb dX10_add_52 (by decide) ?_
        refine lv_iload_n hx hb dX10_add_3 rfl (lv_at hl 0 rfl) ?_
        refine lv_if_lt (tgt := 55) hx hb dX10_add_4 (by decide) (fun c => absurd c (by decide)) (fun _ => ?_)
        refine lv_iload_n hx hb dX10_add_7 rfl (lv_at hl 3 rfl) ?_
        refine lv_iload_n hx hb dX10_add_8 rfl (lv_at hl 0 rfl) ?_
        refine lv_iushr (v := (v0.toUInt32 >>> ((0 : Int32).toUInt32 &&& Int32.toUInt32 31)).toInt32) hx hb dX10_add_9 rfl ?_
        refine lv_sipush (v := 255) hx hb dX10_add_10 (by decide) ?_
        refine lv_iand hx hb dX10_add_13 ?_
        refine lv_istore_n (lv' := [(3, .int (((v0.toUInt32 >>> ((0 : Int32).toUInt32 &&& Int32.toUInt32 31)).toInt32) &&& 255)), (2, .int 0), (0, .ref h0), (1, .int v0)]) hx hb dX10_add_14 rfl hl (by decide) rfl (fun ls hl => ?_)
        refine lv_iload_n hx hb dX10_add_15 rfl (lv_at hl 0 rfl) ?_
        refine lv_if_eq (tgt := 49) hx hb dX10_add_16 (by decide) (fun c29 => ?_) (fun c29 => ?_)
        · skip
          refine lv_iinc (v := (-8)) (lv' := [(2, .int (-8)), (3, .int (((v0.toUInt32 >>> ((0 : Int32).toUInt32 &&& Int32.toUInt32 31)).toInt32) &&& 255)), (0, .ref h0), (1, .int v0)]) hx hb dX10_add_49 hl (k := 1) rfl (by decide) (by decide) rfl (fun ls hl => ?_)
          refine lv_goto (tgt := 3) hx hb dX10_add_52 (by decide) ?_
          refine lv_iload_n hx hb dX10_add_3 rfl (lv_at hl 0 rfl) ?_
          refine lv_if_lt (tgt := 55) hx hb dX10_add_4 (by decide) (fun _ => ?_) (fun c => absurd (by decide) c)
          have e9 : nI (n0 + 1 + 1 + 1) = nI (pv_b4 v0 n0) := by (rw [pv_b4, pv_1_s (x := pv_u 24 v0) _ c1, pv_1_s (x := pv_u 16 v0) _ c17, pv_1_s (x := pv_u 8 v0) _ c25, pv_1_z (x := pv_u 0 v0) _ c29]; try rfl)
          rw [e9] at hP hD
          have hP9 := hP.sub (ws' := [(h0, .inr (10, [.ref h1, .int (nI (pv_b4 v0 n0)), .int 0, .int (-1), .int 0])), (h1, .inl (g0, 240, .inl (upd (upd (upd f0 (Int32.toNatClampNeg (nI n0)) (((v0.toUInt32 >>> ((24 : Int32).toUInt32 &&& Int32.toUInt32 31)).toInt32) &&& 255)) (Int32.toNatClampNeg (nI (n0 + 1))) (((v0.toUInt32 >>> ((16 : Int32).toUInt32 &&& Int32.toUInt32 31)).toInt32) &&& 255)) (Int32.toNatClampNeg (nI (n0 + 1 + 1))) (((v0.toUInt32 >>> ((8 : Int32).toUInt32 &&& Int32.toUInt32 31)).toInt32) &&& 255))))]) [0, 1] rfl
          have hD9 := hD.sub (ws' := [(h0, .inr (10, [.ref h1, .int (nI (pv_b4 v0 n0)), .int 0, .int (-1), .int 0])), (h1, .inl (g0, 240, .inl (upd (upd (upd f0 (Int32.toNatClampNeg (nI n0)) (((v0.toUInt32 >>> ((24 : Int32).toUInt32 &&& Int32.toUInt32 31)).toInt32) &&& 255)) (Int32.toNatClampNeg (nI (n0 + 1))) (((v0.toUInt32 >>> ((16 : Int32).toUInt32 &&& Int32.toUInt32 31)).toInt32) &&& 255)) (Int32.toNatClampNeg (nI (n0 + 1 + 1))) (((v0.toUInt32 >>> ((8 : Int32).toUInt32 &&& Int32.toUInt32 31)).toInt32) &&& 255))))]) [0, 1] (by decide) rfl
          have hK9 := hK.sub (tys' := [(g0, .int)]) [0] rfl
          exact W.vret hx hb hr (fun t ht hW => ⟨⟨(), rfl, trivial, (upd (upd (upd f0 (Int32.toNatClampNeg (nI n0)) (((v0.toUInt32 >>> ((24 : Int32).toUInt32 &&& Int32.toUInt32 31)).toInt32) &&& 255)) (Int32.toNatClampNeg (nI (n0 + 1))) (((v0.toUInt32 >>> ((16 : Int32).toUInt32 &&& Int32.toUInt32 31)).toInt32) &&& 255)) (Int32.toNatClampNeg (nI (n0 + 1 + 1))) (((v0.toUInt32 >>> ((8 : Int32).toUInt32 &&& Int32.toUInt32 31)).toInt32) &&& 255)), by rw [ht]; exact hP9, va_K.moved hW.alike hK9, hD9⟩, hS.F ht⟩) hS.2.2 dX10_add_55
        · skip
          refine lv_aload_n hx hb dX10_add_19 rfl (lv_at hl 2 rfl) ?_
          refine va_get (D := (dC, dI)) (ci := 10) (v := .int (nI (n0 + 1 + 1 + 1))) (C := RX10) (T := TX10) (N := 5) hx hb hts (fun _ h => List.mem_cons_of_mem _ (List.mem_append_right _ h)) hown hK hP 0 rfl rfl 1 (by decide) (hts (.fieldLink RX10 15 "LeftArguments$Tape" "used" "I") (List.mem_cons_of_mem _ (List.mem_append_left _ (List.mem_of_getElem? (i := 0) rfl)))) (fun _ h9 => h9) rfl dX10_add_20 ?_
          refine lv_sipush (v := 240) hx hb dX10_add_23 (by decide) ?_
          refine lv_icmp_ge (tgt := 49) hx hb dX10_add_26 (by decide) (fun c => absurd c (nI_ge (a := (n0 + 1 + 1 + 1)) (b := 240) (by (omega)) (by decide))) (fun _ => ?_)
          refine lv_aload_n hx hb dX10_add_29 rfl (lv_at hl 2 rfl) ?_
          refine va_get (D := (dC, dI)) (ci := 10) (v := .ref h1) (C := RX10) (T := TX10) (N := 5) hx hb hts (fun _ h => List.mem_cons_of_mem _ (List.mem_append_right _ h)) hown hK hP 0 rfl rfl 0 (by decide) (hts (.fieldLink RX10 9 "LeftArguments$Tape" "bytes" "[I") (List.mem_cons_of_mem _ (List.mem_append_left _ (List.mem_of_getElem? (i := 1) rfl)))) (fun _ h9 => h9) rfl dX10_add_30 ?_
          refine lv_aload_n hx hb dX10_add_33 rfl (lv_at hl 2 rfl) ?_
          refine va_get (D := (dC, dI)) (ci := 10) (v := .int (nI (n0 + 1 + 1 + 1))) (C := RX10) (T := TX10) (N := 5) hx hb hts (fun _ h => List.mem_cons_of_mem _ (List.mem_append_right _ h)) hown hK hP 0 rfl rfl 1 (by decide) (hts (.fieldLink RX10 15 "LeftArguments$Tape" "used" "I") (List.mem_cons_of_mem _ (List.mem_append_left _ (List.mem_of_getElem? (i := 0) rfl)))) (fun _ h9 => h9) rfl dX10_add_34 ?_
          refine lv_iload_n hx hb dX10_add_37 rfl (lv_at hl 0 rfl) ?_
          refine va_iast hx hb hK hP hD hS 1 0 rfl rfl (vp_in_nI (n := n0 + 1 + 1 + 1) (N := 240) (by (omega)) (by decide)) dX10_add_38 (fun H locs hP hD hS => ?_)
          have hP : va_P (dC, dI) vwCl [(h0, .inr (10, [.ref h1, .int (nI (n0 + 1 + 1 + 1)), .int 0, .int (-1), .int 0])), (h1, .inl (g0, 240, .inl (upd (upd (upd (upd f0 (Int32.toNatClampNeg (nI n0)) (((v0.toUInt32 >>> ((24 : Int32).toUInt32 &&& Int32.toUInt32 31)).toInt32) &&& 255)) (Int32.toNatClampNeg (nI (n0 + 1))) (((v0.toUInt32 >>> ((16 : Int32).toUInt32 &&& Int32.toUInt32 31)).toInt32) &&& 255)) (Int32.toNatClampNeg (nI (n0 + 1 + 1))) (((v0.toUInt32 >>> ((8 : Int32).toUInt32 &&& Int32.toUInt32 31)).toInt32) &&& 255)) (Int32.toNatClampNeg (nI (n0 + 1 + 1 + 1))) (((v0.toUInt32 >>> ((0 : Int32).toUInt32 &&& Int32.toUInt32 31)).toInt32) &&& 255))))] H := hP
          have hD : va_D A [(h0, .inr (10, [.ref h1, .int (nI (n0 + 1 + 1 + 1)), .int 0, .int (-1), .int 0])), (h1, .inl (g0, 240, .inl (upd (upd (upd (upd f0 (Int32.toNatClampNeg (nI n0)) (((v0.toUInt32 >>> ((24 : Int32).toUInt32 &&& Int32.toUInt32 31)).toInt32) &&& 255)) (Int32.toNatClampNeg (nI (n0 + 1))) (((v0.toUInt32 >>> ((16 : Int32).toUInt32 &&& Int32.toUInt32 31)).toInt32) &&& 255)) (Int32.toNatClampNeg (nI (n0 + 1 + 1))) (((v0.toUInt32 >>> ((8 : Int32).toUInt32 &&& Int32.toUInt32 31)).toInt32) &&& 255)) (Int32.toNatClampNeg (nI (n0 + 1 + 1 + 1))) (((v0.toUInt32 >>> ((0 : Int32).toUInt32 &&& Int32.toUInt32 31)).toInt32) &&& 255))))] := hD
          refine lv_aload_n hx hb dX10_add_39 rfl (lv_at hl 2 rfl) ?_
          refine lv_dup hx hb dX10_add_40 rfl ?_
          refine va_get (D := (dC, dI)) (ci := 10) (v := .int (nI (n0 + 1 + 1 + 1))) (C := RX10) (T := TX10) (N := 5) hx hb hts (fun _ h => List.mem_cons_of_mem _ (List.mem_append_right _ h)) hown hK hP 0 rfl rfl 1 (by decide) (hts (.fieldLink RX10 15 "LeftArguments$Tape" "used" "I") (List.mem_cons_of_mem _ (List.mem_append_left _ (List.mem_of_getElem? (i := 0) rfl)))) (fun _ h9 => h9) rfl dX10_add_41 ?_
          refine lv_iconst (v := 1) hx hb dX10_add_44 (by decide) ?_
          refine lv_iadd hx hb dX10_add_45 ?_
          refine lv_topi (fun tv30 etv30 => ?_)
          obtain rfl : tv30 = nI (n0 + 1 + 1 + 1 + 1) := etv30.trans (nI_add (n0 + 1 + 1 + 1) 1)
          refine va_put (D := (dC, dI)) (ci := 10) (v := .int (nI (n0 + 1 + 1 + 1 + 1))) (ty := .int) (C := RX10) (T := TX10) (N := 5) hx hb hts (fun _ h => List.mem_cons_of_mem _ (List.mem_append_right _ h)) tyX10 tyX10_ok nmX10 hown hK hP hD hS 0 rfl rfl 1 (by decide) (hts (.fieldLink RX10 15 "LeftArguments$Tape" "used" "I") (List.mem_cons_of_mem _ (List.mem_append_left _ (List.mem_of_getElem? (i := 0) rfl)))) (fun _ h9 => h9) rfl (by decide +kernel) rfl rfl (Nat.le_of_ble_eq_true rfl) dX10_add_46 (fun H locs hP hD hS => ?_)
          have hP : va_P (dC, dI) vwCl [(h0, .inr (10, [.ref h1, .int (nI (n0 + 1 + 1 + 1 + 1)), .int 0, .int (-1), .int 0])), (h1, .inl (g0, 240, .inl (upd (upd (upd (upd f0 (Int32.toNatClampNeg (nI n0)) (((v0.toUInt32 >>> ((24 : Int32).toUInt32 &&& Int32.toUInt32 31)).toInt32) &&& 255)) (Int32.toNatClampNeg (nI (n0 + 1))) (((v0.toUInt32 >>> ((16 : Int32).toUInt32 &&& Int32.toUInt32 31)).toInt32) &&& 255)) (Int32.toNatClampNeg (nI (n0 + 1 + 1))) (((v0.toUInt32 >>> ((8 : Int32).toUInt32 &&& Int32.toUInt32 31)).toInt32) &&& 255)) (Int32.toNatClampNeg (nI (n0 + 1 + 1 + 1))) (((v0.toUInt32 >>> ((0 : Int32).toUInt32 &&& Int32.toUInt32 31)).toInt32) &&& 255))))] H := hP
          have hD : va_D A [(h0, .inr (10, [.ref h1, .int (nI (n0 + 1 + 1 + 1 + 1)), .int 0, .int (-1), .int 0])), (h1, .inl (g0, 240, .inl (upd (upd (upd (upd f0 (Int32.toNatClampNeg (nI n0)) (((v0.toUInt32 >>> ((24 : Int32).toUInt32 &&& Int32.toUInt32 31)).toInt32) &&& 255)) (Int32.toNatClampNeg (nI (n0 + 1))) (((v0.toUInt32 >>> ((16 : Int32).toUInt32 &&& Int32.toUInt32 31)).toInt32) &&& 255)) (Int32.toNatClampNeg (nI (n0 + 1 + 1))) (((v0.toUInt32 >>> ((8 : Int32).toUInt32 &&& Int32.toUInt32 31)).toInt32) &&& 255)) (Int32.toNatClampNeg (nI (n0 + 1 + 1 + 1))) (((v0.toUInt32 >>> ((0 : Int32).toUInt32 &&& Int32.toUInt32 31)).toInt32) &&& 255))))] := hD
          refine lv_iinc (v := (-8)) (lv' := [(2, .int (-8)), (3, .int (((v0.toUInt32 >>> ((0 : Int32).toUInt32 &&& Int32.toUInt32 31)).toInt32) &&& 255)), (0, .ref h0), (1, .int v0)]) hx hb dX10_add_49 hl (k := 1) rfl (by decide) (by decide) rfl (fun ls hl => ?_)
          refine lv_goto (tgt := 3) hx hb dX10_add_52 (by decide) ?_
          refine lv_iload_n hx hb dX10_add_3 rfl (lv_at hl 0 rfl) ?_
          refine lv_if_lt (tgt := 55) hx hb dX10_add_4 (by decide) (fun _ => ?_) (fun c => absurd (by decide) c)
          have e9 : nI (n0 + 1 + 1 + 1 + 1) = nI (pv_b4 v0 n0) := by (rw [pv_b4, pv_1_s (x := pv_u 24 v0) _ c1, pv_1_s (x := pv_u 16 v0) _ c17, pv_1_s (x := pv_u 8 v0) _ c25, pv_1_s (x := pv_u 0 v0) _ c29]; try rfl)
          rw [e9] at hP hD
          have hP9 := hP.sub (ws' := [(h0, .inr (10, [.ref h1, .int (nI (pv_b4 v0 n0)), .int 0, .int (-1), .int 0])), (h1, .inl (g0, 240, .inl (upd (upd (upd (upd f0 (Int32.toNatClampNeg (nI n0)) (((v0.toUInt32 >>> ((24 : Int32).toUInt32 &&& Int32.toUInt32 31)).toInt32) &&& 255)) (Int32.toNatClampNeg (nI (n0 + 1))) (((v0.toUInt32 >>> ((16 : Int32).toUInt32 &&& Int32.toUInt32 31)).toInt32) &&& 255)) (Int32.toNatClampNeg (nI (n0 + 1 + 1))) (((v0.toUInt32 >>> ((8 : Int32).toUInt32 &&& Int32.toUInt32 31)).toInt32) &&& 255)) (Int32.toNatClampNeg (nI (n0 + 1 + 1 + 1))) (((v0.toUInt32 >>> ((0 : Int32).toUInt32 &&& Int32.toUInt32 31)).toInt32) &&& 255))))]) [0, 1] rfl
          have hD9 := hD.sub (ws' := [(h0, .inr (10, [.ref h1, .int (nI (pv_b4 v0 n0)), .int 0, .int (-1), .int 0])), (h1, .inl (g0, 240, .inl (upd (upd (upd (upd f0 (Int32.toNatClampNeg (nI n0)) (((v0.toUInt32 >>> ((24 : Int32).toUInt32 &&& Int32.toUInt32 31)).toInt32) &&& 255)) (Int32.toNatClampNeg (nI (n0 + 1))) (((v0.toUInt32 >>> ((16 : Int32).toUInt32 &&& Int32.toUInt32 31)).toInt32) &&& 255)) (Int32.toNatClampNeg (nI (n0 + 1 + 1))) (((v0.toUInt32 >>> ((8 : Int32).toUInt32 &&& Int32.toUInt32 31)).toInt32) &&& 255)) (Int32.toNatClampNeg (nI (n0 + 1 + 1 + 1))) (((v0.toUInt32 >>> ((0 : Int32).toUInt32 &&& Int32.toUInt32 31)).toInt32) &&& 255))))]) [0, 1] (by decide) rfl
          have hK9 := hK.sub (tys' := [(g0, .int)]) [0] rfl
          exact W.vret hx hb hr (fun t ht hW => ⟨⟨(), rfl, trivial, (upd (upd (upd (upd f0 (Int32.toNatClampNeg (nI n0)) (((v0.toUInt32 >>> ((24 : Int32).toUInt32 &&& Int32.toUInt32 31)).toInt32) &&& 255)) (Int32.toNatClampNeg (nI (n0 + 1))) (((v0.toUInt32 >>> ((16 : Int32).toUInt32 &&& Int32.toUInt32 31)).toInt32) &&& 255)) (Int32.toNatClampNeg (nI (n0 + 1 + 1))) (((v0.toUInt32 >>> ((8 : Int32).toUInt32 &&& Int32.toUInt32 31)).toInt32) &&& 255)) (Int32.toNatClampNeg (nI (n0 + 1 + 1 + 1))) (((v0.toUInt32 >>> ((0 : Int32).toUInt32 &&& Int32.toUInt32 31)).toInt32) &&& 255)), by rw [ht]; exact hP9, va_K.moved hW.alike hK9, hD9⟩, hS.F ht⟩) hS.2.2 dX10_add_55
def q_X10_used_1 : List Cond := .code yX10_used cX10_used 1 (some .int) :: (([.fieldLink RX10 15 "LeftArguments$Tape" "used" "I"] : List Cond) ++ wsX100)
set_option maxHeartbeats 4000000 in
set_option maxRecDepth 100000 in
theorem k_X10_used_1 (l : Launch) (dC : Nat → ClassId) (dI : Nat → Nat → Nat) (h0 : Nat) (r0 : Nat) (v0 : Int32) (sz : Nat) : Met l yX10_used q_X10_used_1 ({ frames := 0, cells := 0, slots := 0, locals := 0 }) (va_Pc [.ref h0] (fun U => U.heap.size = sz ∧ va_P (dC, dI) vwCl [(h0, .inr (10, [.ref r0, .int v0, .int 0, .int (-1), .int 0]))] U.heap ∧ va_K (dC, dI) vwCl [] U ∧ va_D (fun _ => True) [(h0, .inr (10, [.ref r0, .int v0, .int 0, .int (-1), .int 0]))])) (va_Qi (fun (r : Int32) (_ : Unit) => r = v0) (fun (_ : Unit) (t : State) => va_P (dC, dI) vwCl [(h0, .inr (10, [.ref r0, .int v0, .int 0, .int (-1), .int 0]))] t.heap ∧ va_K (dC, dI) vwCl [] t ∧ va_D (va_A [(h0, .inr (10, [.ref r0, .int v0, .int 0, .int (-1), .int 0]))] sz) [(h0, .inr (10, [.ref r0, .int v0, .int 0, .int (-1), .int 0]))]) (va_A [(h0, .inr (10, [.ref r0, .int v0, .int 0, .int (-1), .int 0]))] sz)) 0 0 (va_A [(h0, .inr (10, [.ref r0, .int v0, .int 0, .int (-1), .int 0]))] sz) := by
  refine Met.ofW (cc := cX10_used) (maxL := 1) (ret := (some .int)) (by decide) rfl ?_
  intro p e s m args below meth c s₁ B hml hv
  obtain ⟨rfl, hsz, hP, hK, hD0⟩ := hv
  have hx := B.exec
  have hb := B.bytes
  have hr := B.returns
  have hts := atoms_spec (ws := q_X10_used_1) B.pre
  have hown : s.vm.findClass RX10 = some m.cls := findClass_of_methodNamed B.named
  have hlocks := B.notSynchronized
  subst hsz
  have hD := hD0.self (sz := s.heap.size)
  generalize hAe : va_A [(h0, .inr (10, [.ref r0, .int v0, .int 0, .int (-1), .int 0]))] s.heap.size = A at hD ⊢
  have hA : ∀ q : Nat, s.heap.size ≤ q → A q := fun q h => by rw [← hAe]; exact Or.inr h
  have hS : va_S A s.heap s.heap [] := va_S.rf
  have hl := lv_entry ([.ref h0]) (n := 1) (Nat.le_of_ble_eq_true rfl)
  rw [lg_entry_eq]
  generalize (lg_sl ([.ref h0]) ++ List.replicate (1 - (lg_sl ([.ref h0])).length) Slot.unset).toArray = ls at hl ⊢
  have hl : lv_has ls 1 [(0, .ref h0)] := hl
  refine lv_aload_n hx hb dX10_used_0 rfl (lv_at hl 0 rfl) ?_
  refine va_get (D := (dC, dI)) (ci := 10) (v := .int v0) (C := RX10) (T := TX10) (N := 5) hx hb hts (fun _ h => List.mem_cons_of_mem _ (List.mem_append_right _ h)) hown hK hP 0 rfl rfl 1 (by decide) (hts (.fieldLink RX10 15 "LeftArguments$Tape" "used" "I") (List.mem_cons_of_mem _ (List.mem_append_left _ (List.mem_of_getElem? (i := 0) rfl)))) (fun _ h9 => h9) rfl dX10_used_1 ?_
  have hP9 := hP.sub (ws' := [(h0, .inr (10, [.ref r0, .int v0, .int 0, .int (-1), .int 0]))]) [0] rfl
  have hD9 := hD.sub (ws' := [(h0, .inr (10, [.ref r0, .int v0, .int 0, .int (-1), .int 0]))]) [0] (by decide) rfl
  have hK9 := hK.sub (tys' := []) [] rfl
  exact W.iret (v := v0) hx hb hr (fun t ht hW => ⟨⟨v0, (), rfl, rfl, by rw [ht]; exact hP9, va_K.moved hW.alike hK9, hD9⟩, hS.F ht⟩) hS.2.2 dX10_used_4
def q_X11_feed : List Cond := .code yX11_feed cX11_feed 7 (some .int) :: (([.code yX10_signsIn cX10_signsIn 3 (some .int), .initialized RX10, .static yX10_signsIn, .methodLink RX11 112 yX10_signsIn, .fieldLink RX11 10 "LeftArguments" "tape" "LLeftArguments$Tape;", .code yX10_used cX10_used 1 (some .int), .fieldLink RX10 15 "LeftArguments$Tape" "used" "I", .instanceMethod yX10_used, .selects RX10 yX10_used yX10_used, .methodLink RX11 116 yX10_used, .code yX10_add cX10_add 4 none, .fieldLink RX10 9 "LeftArguments$Tape" "bytes" "[I", .instanceMethod yX10_add, .selects RX10 yX10_add yX10_add, .methodLink RX11 120 yX10_add] : List Cond) ++ wsX110 ++ wsX100)
set_option maxRecDepth 20000 in
theorem g_X11_feed_0 : GoodIn q_X11_feed (va_wsS RX11 112 yX10_signsIn q_X10_signsIn) := goodIn_app (goodIn_r _ [4, 3, 2] (by decide +kernel) (by decide +kernel)) (goodIn_r (.code yX10_signsIn cX10_signsIn 3 (some .int) :: []) [1] (by decide +kernel) (by decide +kernel))
set_option maxRecDepth 20000 in
theorem g_X11_feed_1 : GoodIn q_X11_feed (va_wsS RX11 112 yX10_signsIn q_X10_signsIn) := goodIn_app (goodIn_r _ [4, 3, 2] (by decide +kernel) (by decide +kernel)) (goodIn_r (.code yX10_signsIn cX10_signsIn 3 (some .int) :: []) [1] (by decide +kernel) (by decide +kernel))
set_option maxRecDepth 20000 in
theorem g_X11_feed_2 : GoodIn q_X11_feed (va_wsS RX11 112 yX10_signsIn q_X10_signsIn) := goodIn_app (goodIn_r _ [4, 3, 2] (by decide +kernel) (by decide +kernel)) (goodIn_r (.code yX10_signsIn cX10_signsIn 3 (some .int) :: []) [1] (by decide +kernel) (by decide +kernel))
set_option maxRecDepth 20000 in
theorem g_X11_feed_3 : GoodIn q_X11_feed (va_wsS RX11 112 yX10_signsIn q_X10_signsIn) := goodIn_app (goodIn_r _ [4, 3, 2] (by decide +kernel) (by decide +kernel)) (goodIn_r (.code yX10_signsIn cX10_signsIn 3 (some .int) :: []) [1] (by decide +kernel) (by decide +kernel))
set_option maxRecDepth 20000 in
theorem g_X11_feed_4 : GoodIn q_X11_feed (va_wsS RX11 112 yX10_signsIn q_X10_signsIn) := goodIn_app (goodIn_r _ [4, 3, 2] (by decide +kernel) (by decide +kernel)) (goodIn_r (.code yX10_signsIn cX10_signsIn 3 (some .int) :: []) [1] (by decide +kernel) (by decide +kernel))
set_option maxRecDepth 20000 in
theorem g_X11_feed_5 : GoodIn q_X11_feed (wsV RX11 116 RX10 yX10_used q_X10_used) := goodIn_app (goodIn_r _ [10, 8, 9, 2] (by decide +kernel) (by decide +kernel)) (goodIn_ca (goodIn_r (.code yX10_used cX10_used 1 (some .int) :: [.fieldLink RX10 15 "LeftArguments$Tape" "used" "I"]) [6, 7] (by decide +kernel) (by decide +kernel)) (goodIn_sub (fun _ h => List.mem_cons_of_mem _ (List.mem_append_right _ h)) gwX10))
set_option maxRecDepth 20000 in
theorem g_X11_feed_6 : GoodIn q_X11_feed (wsV RX11 120 RX10 yX10_add q_X10_add) := goodIn_app (goodIn_r _ [15, 13, 14, 2] (by decide +kernel) (by decide +kernel)) (goodIn_ca (goodIn_r (.code yX10_add cX10_add 4 none :: [.fieldLink RX10 15 "LeftArguments$Tape" "used" "I", .fieldLink RX10 9 "LeftArguments$Tape" "bytes" "[I"]) [11, 7, 12] (by decide +kernel) (by decide +kernel)) (goodIn_sub (fun _ h => List.mem_cons_of_mem _ (List.mem_append_right _ h)) gwX10))
set_option maxRecDepth 20000 in
theorem g_X11_feed_7 : GoodIn q_X11_feed (wsV RX11 120 RX10 yX10_add q_X10_add) := goodIn_app (goodIn_r _ [15, 13, 14, 2] (by decide +kernel) (by decide +kernel)) (goodIn_ca (goodIn_r (.code yX10_add cX10_add 4 none :: [.fieldLink RX10 15 "LeftArguments$Tape" "used" "I", .fieldLink RX10 9 "LeftArguments$Tape" "bytes" "[I"]) [11, 7, 12] (by decide +kernel) (by decide +kernel)) (goodIn_sub (fun _ h => List.mem_cons_of_mem _ (List.mem_append_right _ h)) gwX10))
set_option maxRecDepth 20000 in
theorem g_X11_feed_8 : GoodIn q_X11_feed (wsV RX11 120 RX10 yX10_add q_X10_add) := goodIn_app (goodIn_r _ [15, 13, 14, 2] (by decide +kernel) (by decide +kernel)) (goodIn_ca (goodIn_r (.code yX10_add cX10_add 4 none :: [.fieldLink RX10 15 "LeftArguments$Tape" "used" "I", .fieldLink RX10 9 "LeftArguments$Tape" "bytes" "[I"]) [11, 7, 12] (by decide +kernel) (by decide +kernel)) (goodIn_sub (fun _ h => List.mem_cons_of_mem _ (List.mem_append_right _ h)) gwX10))
set_option maxRecDepth 20000 in
theorem g_X11_feed_9 : GoodIn q_X11_feed (wsV RX11 120 RX10 yX10_add q_X10_add) := goodIn_app (goodIn_r _ [15, 13, 14, 2] (by decide +kernel) (by decide +kernel)) (goodIn_ca (goodIn_r (.code yX10_add cX10_add 4 none :: [.fieldLink RX10 15 "LeftArguments$Tape" "used" "I", .fieldLink RX10 9 "LeftArguments$Tape" "bytes" "[I"]) [11, 7, 12] (by decide +kernel) (by decide +kernel)) (goodIn_sub (fun _ h => List.mem_cons_of_mem _ (List.mem_append_right _ h)) gwX10))
set_option maxRecDepth 20000 in
theorem g_X11_feed_10 : GoodIn q_X11_feed (wsV RX11 120 RX10 yX10_add q_X10_add) := goodIn_app (goodIn_r _ [15, 13, 14, 2] (by decide +kernel) (by decide +kernel)) (goodIn_ca (goodIn_r (.code yX10_add cX10_add 4 none :: [.fieldLink RX10 15 "LeftArguments$Tape" "used" "I", .fieldLink RX10 9 "LeftArguments$Tape" "bytes" "[I"]) [11, 7, 12] (by decide +kernel) (by decide +kernel)) (goodIn_sub (fun _ h => List.mem_cons_of_mem _ (List.mem_append_right _ h)) gwX10))
set_option maxRecDepth 20000 in
theorem g_X11_feed_11 : GoodIn q_X11_feed (wsV RX11 116 RX10 yX10_used q_X10_used_1) := goodIn_app (goodIn_r _ [10, 8, 9, 2] (by decide +kernel) (by decide +kernel)) (goodIn_ca (goodIn_r (.code yX10_used cX10_used 1 (some .int) :: [.fieldLink RX10 15 "LeftArguments$Tape" "used" "I"]) [6, 7] (by decide +kernel) (by decide +kernel)) (goodIn_sub (fun _ h => List.mem_cons_of_mem _ (List.mem_append_right _ h)) gwX10))
set_option maxHeartbeats 4000000 in
set_option maxRecDepth 100000 in
theorem k_X11_feed (l : Launch) (dC : Nat → ClassId) (dI : Nat → Nat → Nat) (g0 : ClassId) (h0 h1 h2 : Nat) (r0 r1 r2 r3 r4 r5 r6 r7 r8 r9 r10 r11 r12 : Nat) (v0 v1 v2 v3 v4 : Int32) (sz : Nat) : Met l yX11_feed q_X11_feed ({ frames := 1, cells := 0, slots := 0, locals := 23 }) (va_Pc [.ref h0, .int v0, .int v1, .int v2, .int v3, .int v4] (fun U => U.heap.size = sz ∧ va_P (dC, dI) vwCl [(h0, .inr (11, [.ref h1, .ref r0, .ref r1, .ref r2, .ref r3, .ref r4, .ref r5, .ref r6, .ref r7, .ref r8, .ref r9, .ref r10, .ref r11, .ref r12, .int 0, .int 5, .long 0])), (h1, .inr (10, [.ref h2, .int 0, .int 0, .int (-1), .int 0])), (h2, .inl (g0, 240, .inl (fun _ => 0)))] U.heap ∧ va_K (dC, dI) vwCl [(g0, .int)] U ∧ va_D (fun _ => True) [(h0, .inr (11, [.ref h1, .ref r0, .ref r1, .ref r2, .ref r3, .ref r4, .ref r5, .ref r6, .ref r7, .ref r8, .ref r9, .ref r10, .ref r11, .ref r12, .int 0, .int 5, .long 0])), (h1, .inr (10, [.ref h2, .int 0, .int 0, .int (-1), .int 0])), (h2, .inl (g0, 240, .inl (fun _ => 0)))])) (va_Qi (fun (r : Int32) (_ : Unit) => r = (nI (pv_b4 v4 (pv_b4 v3 (pv_b4 v2 (pv_b4 v1 (pv_b4 v0 0))))))) (fun (_ : Unit) (t : State) => va_P (dC, dI) vwCl [] t.heap ∧ va_K (dC, dI) vwCl [] t ∧ va_D (va_A [(h0, .inr (11, [.ref h1, .ref r0, .ref r1, .ref r2, .ref r3, .ref r4, .ref r5, .ref r6, .ref r7, .ref r8, .ref r9, .ref r10, .ref r11, .ref r12, .int 0, .int 5, .long 0])), (h1, .inr (10, [.ref h2, .int 0, .int 0, .int (-1), .int 0])), (h2, .inl (g0, 240, .inl (fun _ => 0)))] sz) []) (va_A [(h0, .inr (11, [.ref h1, .ref r0, .ref r1, .ref r2, .ref r3, .ref r4, .ref r5, .ref r6, .ref r7, .ref r8, .ref r9, .ref r10, .ref r11, .ref r12, .int 0, .int 5, .long 0])), (h1, .inr (10, [.ref h2, .int 0, .int 0, .int (-1), .int 0])), (h2, .inl (g0, 240, .inl (fun _ => 0)))] sz)) 0 0 (va_A [(h0, .inr (11, [.ref h1, .ref r0, .ref r1, .ref r2, .ref r3, .ref r4, .ref r5, .ref r6, .ref r7, .ref r8, .ref r9, .ref r10, .ref r11, .ref r12, .int 0, .int 5, .long 0])), (h1, .inr (10, [.ref h2, .int 0, .int 0, .int (-1), .int 0])), (h2, .inl (g0, 240, .inl (fun _ => 0)))] sz) := by
  refine Met.ofW (cc := cX11_feed) (maxL := 7) (ret := (some .int)) (by decide) rfl ?_
  intro p e s m args below meth c s₁ B hml hv
  obtain ⟨rfl, hsz, hP, hK, hD0⟩ := hv
  have hx := B.exec
  have hb := B.bytes
  have hr := B.returns
  have hts := atoms_spec (ws := q_X11_feed) B.pre
  have hown : s.vm.findClass RX11 = some m.cls := findClass_of_methodNamed B.named
  have hlocks := B.notSynchronized
  subst hsz
  have hD := hD0.self (sz := s.heap.size)
  generalize hAe : va_A [(h0, .inr (11, [.ref h1, .ref r0, .ref r1, .ref r2, .ref r3, .ref r4, .ref r5, .ref r6, .ref r7, .ref r8, .ref r9, .ref r10, .ref r11, .ref r12, .int 0, .int 5, .long 0])), (h1, .inr (10, [.ref h2, .int 0, .int 0, .int (-1), .int 0])), (h2, .inl (g0, 240, .inl (fun _ => 0)))] s.heap.size = A at hD ⊢
  have hA : ∀ q : Nat, s.heap.size ≤ q → A q := fun q h => by rw [← hAe]; exact Or.inr h
  have hS : va_S A s.heap s.heap [] := va_S.rf
  have hl := lv_entry ([.ref h0, .int v0, .int v1, .int v2, .int v3, .int v4]) (n := 7) (Nat.le_of_ble_eq_true rfl)
  rw [lg_entry_eq]
  generalize (lg_sl ([.ref h0, .int v0, .int v1, .int v2, .int v3, .int v4]) ++ List.replicate (7 - (lg_sl ([.ref h0, .int v0, .int v1, .int v2, .int v3, .int v4])).length) Slot.unset).toArray = ls at hl ⊢
  have hl : lv_has ls 7 [(0, .ref h0), (1, .int v0), (2, .int v1), (3, .int v2), (4, .int v3), (5, .int v4)] := hl
  refine lv_iload_n hx hb dX11_feed_0 rfl (lv_at hl 1 rfl) ?_
  have hPc := hP.sub (ws' := []) [] rfl
  have hDc := hD.sub (ws' := []) [] (by decide) rfl
  have hKc := hK.sub (tys' := []) [] rfl
  have hFc := va_free (wc := []) hD hS hA [] rfl
  refine va_calli (va_runS (As := [.int v0]) (rest := []) ⟨hx, hb, hml, hown, hts⟩ (k_X10_signsIn l dC dI v0  s.heap.size) (va_cwS 1 hts g_X11_feed_0 rfl rfl rfl (by decide +kernel) ⟨Nat.le_of_ble_eq_true rfl, Nat.le_of_ble_eq_true rfl⟩) ⟨fun a U g mk q => by obtain ⟨q0, q1, qP, qK, qD⟩ := q; exact ⟨q0, q1, qP, va_K.moved (u := U) (U := U.calling g mk a) (Vm.Alike.refl U.vm) qK, qD⟩, fun U hU hW => ⟨rfl, by rw [hU], by rw [hU]; exact hPc, va_K.moved hW.alike hKc, hDc.weaken (fun _ _ _ _ => trivial)⟩⟩ rfl rfl hl.1 rfl (lv_room (Nat.le_of_ble_eq_true rfl)) dX11_feed_1 ⟨Nat.le_of_ble_eq_true rfl, Nat.le_of_ble_eq_true rfl⟩) hS (fun q _ h => hFc q h) hFc (fun ra1 u t H1 locs ht hvm hw hB hz1 hk1 hS => ?_)
  obtain ⟨hP1, hK1, hD1⟩ := hB
  rw [ht] at hP1
  obtain ⟨hP, hD⟩ := va_join (wr := [(h0, .inr (11, [.ref h1, .ref r0, .ref r1, .ref r2, .ref r3, .ref r4, .ref r5, .ref r6, .ref r7, .ref r8, .ref r9, .ref r10, .ref r11, .ref r12, .int 0, .int 5, .long 0])), (h1, .inr (10, [.ref h2, .int 0, .int 0, .int (-1), .int 0])), (h2, .inl (g0, 240, .inl (fun _ => 0)))]) (w1 := []) hP hD [] [0, 1, 2] rfl rfl (by decide) (by decide) hk1 hFc hP1 hD1
  generalize H1 = H at hP hS ⊢
  have hP : va_P (dC, dI) vwCl [(h0, .inr (11, [.ref h1, .ref r0, .ref r1, .ref r2, .ref r3, .ref r4, .ref r5, .ref r6, .ref r7, .ref r8, .ref r9, .ref r10, .ref r11, .ref r12, .int 0, .int 5, .long 0])), (h1, .inr (10, [.ref h2, .int 0, .int 0, .int (-1), .int 0])), (h2, .inl (g0, 240, .inl (fun _ => 0)))] H := hP
  have hD : va_D A [(h0, .inr (11, [.ref h1, .ref r0, .ref r1, .ref r2, .ref r3, .ref r4, .ref r5, .ref r6, .ref r7, .ref r8, .ref r9, .ref r10, .ref r11, .ref r12, .int 0, .int 5, .long 0])), (h1, .inr (10, [.ref h2, .int 0, .int 0, .int (-1), .int 0])), (h2, .inl (g0, 240, .inl (fun _ => 0)))] := hD
  obtain rfl : ra1 = (nI (pv_b4 v0 0)) := hw
  refine lv_iload_n hx hb dX11_feed_4 rfl (lv_at hl 2 rfl) ?_
  have hPc := hP.sub (ws' := []) [] rfl
  have hDc := hD.sub (ws' := []) [] (by decide) rfl
  have hKc := hK.sub (tys' := []) [] rfl
  have hFc := va_free (wc := []) hD hS hA [] rfl
  refine va_calli (va_runS (As := [.int v1]) (rest := [.int (nI (pv_b4 v0 0))]) ⟨hx, hb, hml, hown, hts⟩ (k_X10_signsIn l dC dI v1  H.size) (va_cwS 1 hts g_X11_feed_1 rfl rfl rfl (by decide +kernel) ⟨Nat.le_of_ble_eq_true rfl, Nat.le_of_ble_eq_true rfl⟩) ⟨fun a U g mk q => by obtain ⟨q0, q1, qP, qK, qD⟩ := q; exact ⟨q0, q1, qP, va_K.moved (u := U) (U := U.calling g mk a) (Vm.Alike.refl U.vm) qK, qD⟩, fun U hU hW => ⟨rfl, by rw [hU], by rw [hU]; exact hPc, va_K.moved hW.alike hKc, hDc.weaken (fun _ _ _ _ => trivial)⟩⟩ rfl rfl hl.1 rfl (lv_room (Nat.le_of_ble_eq_true rfl)) dX11_feed_5 ⟨Nat.le_of_ble_eq_true rfl, Nat.le_of_ble_eq_true rfl⟩) hS (fun q _ h => hFc q h) hFc (fun ra2 u t H1 locs ht hvm hw hB hz1 hk1 hS => ?_)
  obtain ⟨hP1, hK1, hD1⟩ := hB
  rw [ht] at hP1
  obtain ⟨hP, hD⟩ := va_join (wr := [(h0, .inr (11, [.ref h1, .ref r0, .ref r1, .ref r2, .ref r3, .ref r4, .ref r5, .ref r6, .ref r7, .ref r8, .ref r9, .ref r10, .ref r11, .ref r12, .int 0, .int 5, .long 0])), (h1, .inr (10, [.ref h2, .int 0, .int 0, .int (-1), .int 0])), (h2, .inl (g0, 240, .inl (fun _ => 0)))]) (w1 := []) hP hD [] [0, 1, 2] rfl rfl (by decide) (by decide) hk1 hFc hP1 hD1
  generalize H1 = H at hP hS ⊢
  have hP : va_P (dC, dI) vwCl [(h0, .inr (11, [.ref h1, .ref r0, .ref r1, .ref r2, .ref r3, .ref r4, .ref r5, .ref r6, .ref r7, .ref r8, .ref r9, .ref r10, .ref r11, .ref r12, .int 0, .int 5, .long 0])), (h1, .inr (10, [.ref h2, .int 0, .int 0, .int (-1), .int 0])), (h2, .inl (g0, 240, .inl (fun _ => 0)))] H := hP
  have hD : va_D A [(h0, .inr (11, [.ref h1, .ref r0, .ref r1, .ref r2, .ref r3, .ref r4, .ref r5, .ref r6, .ref r7, .ref r8, .ref r9, .ref r10, .ref r11, .ref r12, .int 0, .int 5, .long 0])), (h1, .inr (10, [.ref h2, .int 0, .int 0, .int (-1), .int 0])), (h2, .inl (g0, 240, .inl (fun _ => 0)))] := hD
  obtain rfl : ra2 = (nI (pv_b4 v1 0)) := hw
  refine lv_iadd hx hb dX11_feed_8 ?_
  refine lv_topi (fun tv3 etv3 => ?_)
  obtain rfl : tv3 = nI (pv_b4 v0 0 + (pv_b4 v1 0)) := etv3.trans (nI_add (pv_b4 v0 0) (pv_b4 v1 0))
  refine lv_iload_n hx hb dX11_feed_9 rfl (lv_at hl 3 rfl) ?_
  have hPc := hP.sub (ws' := []) [] rfl
  have hDc := hD.sub (ws' := []) [] (by decide) rfl
  have hKc := hK.sub (tys' := []) [] rfl
  have hFc := va_free (wc := []) hD hS hA [] rfl
  refine va_calli (va_runS (As := [.int v2]) (rest := [.int (nI (pv_b4 v0 0 + (pv_b4 v1 0)))]) ⟨hx, hb, hml, hown, hts⟩ (k_X10_signsIn l dC dI v2  H.size) (va_cwS 1 hts g_X11_feed_2 rfl rfl rfl (by decide +kernel) ⟨Nat.le_of_ble_eq_true rfl, Nat.le_of_ble_eq_true rfl⟩) ⟨fun a U g mk q => by obtain ⟨q0, q1, qP, qK, qD⟩ := q; exact ⟨q0, q1, qP, va_K.moved (u := U) (U := U.calling g mk a) (Vm.Alike.refl U.vm) qK, qD⟩, fun U hU hW => ⟨rfl, by rw [hU], by rw [hU]; exact hPc, va_K.moved hW.alike hKc, hDc.weaken (fun _ _ _ _ => trivial)⟩⟩ rfl rfl hl.1 rfl (lv_room (Nat.le_of_ble_eq_true rfl)) dX11_feed_10 ⟨Nat.le_of_ble_eq_true rfl, Nat.le_of_ble_eq_true rfl⟩) hS (fun q _ h => hFc q h) hFc (fun ra4 u t H1 locs ht hvm hw hB hz1 hk1 hS => ?_)
  obtain ⟨hP1, hK1, hD1⟩ := hB
  rw [ht] at hP1
  obtain ⟨hP, hD⟩ := va_join (wr := [(h0, .inr (11, [.ref h1, .ref r0, .ref r1, .ref r2, .ref r3, .ref r4, .ref r5, .ref r6, .ref r7, .ref r8, .ref r9, .ref r10, .ref r11, .ref r12, .int 0, .int 5, .long 0])), (h1, .inr (10, [.ref h2, .int 0, .int 0, .int (-1), .int 0])), (h2, .inl (g0, 240, .inl (fun _ => 0)))]) (w1 := []) hP hD [] [0, 1, 2] rfl rfl (by decide) (by decide) hk1 hFc hP1 hD1
  generalize H1 = H at hP hS ⊢
  have hP : va_P (dC, dI) vwCl [(h0, .inr (11, [.ref h1, .ref r0, .ref r1, .ref r2, .ref r3, .ref r4, .ref r5, .ref r6, .ref r7, .ref r8, .ref r9, .ref r10, .ref r11, .ref r12, .int 0, .int 5, .long 0])), (h1, .inr (10, [.ref h2, .int 0, .int 0, .int (-1), .int 0])), (h2, .inl (g0, 240, .inl (fun _ => 0)))] H := hP
  have hD : va_D A [(h0, .inr (11, [.ref h1, .ref r0, .ref r1, .ref r2, .ref r3, .ref r4, .ref r5, .ref r6, .ref r7, .ref r8, .ref r9, .ref r10, .ref r11, .ref r12, .int 0, .int 5, .long 0])), (h1, .inr (10, [.ref h2, .int 0, .int 0, .int (-1), .int 0])), (h2, .inl (g0, 240, .inl (fun _ => 0)))] := hD
  obtain rfl : ra4 = (nI (pv_b4 v2 0)) := hw
  refine lv_iadd hx hb dX11_feed_13 ?_
  refine lv_topi (fun tv5 etv5 => ?_)
  obtain rfl : tv5 = nI (pv_b4 v0 0 + (pv_b4 v1 0) + (pv_b4 v2 0)) := etv5.trans (nI_add (pv_b4 v0 0 + (pv_b4 v1 0)) (pv_b4 v2 0))
  refine lv_iload hx hb dX11_feed_14 (lv_at hl 4 rfl) ?_
  have hPc := hP.sub (ws' := []) [] rfl
  have hDc := hD.sub (ws' := []) [] (by decide) rfl
  have hKc := hK.sub (tys' := []) [] rfl
  have hFc := va_free (wc := []) hD hS hA [] rfl
  refine va_calli (va_runS (As := [.int v3]) (rest := [.int (nI (pv_b4 v0 0 + (pv_b4 v1 0) + (pv_b4 v2 0)))]) ⟨hx, hb, hml, hown, hts⟩ (k_X10_signsIn l dC dI v3  H.size) (va_cwS 1 hts g_X11_feed_3 rfl rfl rfl (by decide +kernel) ⟨Nat.le_of_ble_eq_true rfl, Nat.le_of_ble_eq_true rfl⟩) ⟨fun a U g mk q => by obtain ⟨q0, q1, qP, qK, qD⟩ := q; exact ⟨q0, q1, qP, va_K.moved (u := U) (U := U.calling g mk a) (Vm.Alike.refl U.vm) qK, qD⟩, fun U hU hW => ⟨rfl, by rw [hU], by rw [hU]; exact hPc, va_K.moved hW.alike hKc, hDc.weaken (fun _ _ _ _ => trivial)⟩⟩ rfl rfl hl.1 rfl (lv_room (Nat.le_of_ble_eq_true rfl)) dX11_feed_16 ⟨Nat.le_of_ble_eq_true rfl, Nat.le_of_ble_eq_true rfl⟩) hS (fun q _ h => hFc q h) hFc (fun ra6 u t H1 locs ht hvm hw hB hz1 hk1 hS => ?_)
  obtain ⟨hP1, hK1, hD1⟩ := hB
  rw [ht] at hP1
  obtain ⟨hP, hD⟩ := va_join (wr := [(h0, .inr (11, [.ref h1, .ref r0, .ref r1, .ref r2, .ref r3, .ref r4, .ref r5, .ref r6, .ref r7, .ref r8, .ref r9, .ref r10, .ref r11, .ref r12, .int 0, .int 5, .long 0])), (h1, .inr (10, [.ref h2, .int 0, .int 0, .int (-1), .int 0])), (h2, .inl (g0, 240, .inl (fun _ => 0)))]) (w1 := []) hP hD [] [0, 1, 2] rfl rfl (by decide) (by decide) hk1 hFc hP1 hD1
  generalize H1 = H at hP hS ⊢
  have hP : va_P (dC, dI) vwCl [(h0, .inr (11, [.ref h1, .ref r0, .ref r1, .ref r2, .ref r3, .ref r4, .ref r5, .ref r6, .ref r7, .ref r8, .ref r9, .ref r10, .ref r11, .ref r12, .int 0, .int 5, .long 0])), (h1, .inr (10, [.ref h2, .int 0, .int 0, .int (-1), .int 0])), (h2, .inl (g0, 240, .inl (fun _ => 0)))] H := hP
  have hD : va_D A [(h0, .inr (11, [.ref h1, .ref r0, .ref r1, .ref r2, .ref r3, .ref r4, .ref r5, .ref r6, .ref r7, .ref r8, .ref r9, .ref r10, .ref r11, .ref r12, .int 0, .int 5, .long 0])), (h1, .inr (10, [.ref h2, .int 0, .int 0, .int (-1), .int 0])), (h2, .inl (g0, 240, .inl (fun _ => 0)))] := hD
  obtain rfl : ra6 = (nI (pv_b4 v3 0)) := hw
  refine lv_iadd hx hb dX11_feed_19 ?_
  refine lv_topi (fun tv7 etv7 => ?_)
  obtain rfl : tv7 = nI (pv_b4 v0 0 + (pv_b4 v1 0) + (pv_b4 v2 0) + (pv_b4 v3 0)) := etv7.trans (nI_add (pv_b4 v0 0 + (pv_b4 v1 0) + (pv_b4 v2 0)) (pv_b4 v3 0))
  refine lv_iload hx hb dX11_feed_20 (lv_at hl 5 rfl) ?_
  have hPc := hP.sub (ws' := []) [] rfl
  have hDc := hD.sub (ws' := []) [] (by decide) rfl
  have hKc := hK.sub (tys' := []) [] rfl
  have hFc := va_free (wc := []) hD hS hA [] rfl
  refine va_calli (va_runS (As := [.int v4]) (rest := [.int (nI (pv_b4 v0 0 + (pv_b4 v1 0) + (pv_b4 v2 0) + (pv_b4 v3 0)))]) ⟨hx, hb, hml, hown, hts⟩ (k_X10_signsIn l dC dI v4  H.size) (va_cwS 1 hts g_X11_feed_4 rfl rfl rfl (by decide +kernel) ⟨Nat.le_of_ble_eq_true rfl, Nat.le_of_ble_eq_true rfl⟩) ⟨fun a U g mk q => by obtain ⟨q0, q1, qP, qK, qD⟩ := q; exact ⟨q0, q1, qP, va_K.moved (u := U) (U := U.calling g mk a) (Vm.Alike.refl U.vm) qK, qD⟩, fun U hU hW => ⟨rfl, by rw [hU], by rw [hU]; exact hPc, va_K.moved hW.alike hKc, hDc.weaken (fun _ _ _ _ => trivial)⟩⟩ rfl rfl hl.1 rfl (lv_room (Nat.le_of_ble_eq_true rfl)) dX11_feed_22 ⟨Nat.le_of_ble_eq_true rfl, Nat.le_of_ble_eq_true rfl⟩) hS (fun q _ h => hFc q h) hFc (fun ra8 u t H1 locs ht hvm hw hB hz1 hk1 hS => ?_)
  obtain ⟨hP1, hK1, hD1⟩ := hB
  rw [ht] at hP1
  obtain ⟨hP, hD⟩ := va_join (wr := [(h0, .inr (11, [.ref h1, .ref r0, .ref r1, .ref r2, .ref r3, .ref r4, .ref r5, .ref r6, .ref r7, .ref r8, .ref r9, .ref r10, .ref r11, .ref r12, .int 0, .int 5, .long 0])), (h1, .inr (10, [.ref h2, .int 0, .int 0, .int (-1), .int 0])), (h2, .inl (g0, 240, .inl (fun _ => 0)))]) (w1 := []) hP hD [] [0, 1, 2] rfl rfl (by decide) (by decide) hk1 hFc hP1 hD1
  generalize H1 = H at hP hS ⊢
  have hP : va_P (dC, dI) vwCl [(h0, .inr (11, [.ref h1, .ref r0, .ref r1, .ref r2, .ref r3, .ref r4, .ref r5, .ref r6, .ref r7, .ref r8, .ref r9, .ref r10, .ref r11, .ref r12, .int 0, .int 5, .long 0])), (h1, .inr (10, [.ref h2, .int 0, .int 0, .int (-1), .int 0])), (h2, .inl (g0, 240, .inl (fun _ => 0)))] H := hP
  have hD : va_D A [(h0, .inr (11, [.ref h1, .ref r0, .ref r1, .ref r2, .ref r3, .ref r4, .ref r5, .ref r6, .ref r7, .ref r8, .ref r9, .ref r10, .ref r11, .ref r12, .int 0, .int 5, .long 0])), (h1, .inr (10, [.ref h2, .int 0, .int 0, .int (-1), .int 0])), (h2, .inl (g0, 240, .inl (fun _ => 0)))] := hD
  obtain rfl : ra8 = (nI (pv_b4 v4 0)) := hw
  refine lv_iadd hx hb dX11_feed_25 ?_
  refine lv_topi (fun tv9 etv9 => ?_)
  obtain rfl : tv9 = nI (pv_b4 v0 0 + (pv_b4 v1 0) + (pv_b4 v2 0) + (pv_b4 v3 0) + (pv_b4 v4 0)) := etv9.trans (nI_add (pv_b4 v0 0 + (pv_b4 v1 0) + (pv_b4 v2 0) + (pv_b4 v3 0)) (pv_b4 v4 0))
  refine lv_istore (lv' := [(6, .int (nI (pv_b4 v0 0 + (pv_b4 v1 0) + (pv_b4 v2 0) + (pv_b4 v3 0) + (pv_b4 v4 0)))), (0, .ref h0), (1, .int v0), (2, .int v1), (3, .int v2), (4, .int v3), (5, .int v4)]) hx hb dX11_feed_26 hl (by decide) rfl (fun ls hl => ?_)
  refine lv_aload_n hx hb dX11_feed_28 rfl (lv_at hl 1 rfl) ?_
  refine va_get (D := (dC, dI)) (ci := 11) (v := .ref h1) (C := RX11) (T := TX11) (N := 17) hx hb hts (fun _ h => List.mem_cons_of_mem _ (List.mem_append_left _ (List.mem_append_right _ h))) hown hK hP 0 rfl rfl 0 (by decide) (hts (.fieldLink RX11 10 "LeftArguments" "tape" "LLeftArguments$Tape;") (List.mem_cons_of_mem _ (List.mem_append_left _ (List.mem_append_left _ (List.mem_of_getElem? (i := 4) rfl))))) (fun _ h9 => h9) rfl dX11_feed_29 ?_
  have hPc := hP.sub (ws' := [(h1, .inr (10, [.ref h2, .int 0, .int 0, .int (-1), .int 0]))]) [1] rfl
  have hDc := hD.sub (ws' := [(h1, .inr (10, [.ref h2, .int 0, .int 0, .int (-1), .int 0]))]) [1] (by decide) rfl
  have hKc := hK.sub (tys' := []) [] rfl
  have hFc := va_free (wc := [(h1, .inr (10, [.ref h2, .int 0, .int 0, .int (-1), .int 0]))]) hD hS hA [1] rfl
  refine va_calli (va_runV (As := []) (rest := []) ⟨hx, hb, hml, hown, hts⟩ (k_X10_used l dC dI h1 h2  H.size) (cwV 0 hts g_X11_feed_5 rfl rfl rfl (by decide +kernel) ⟨Nat.le_of_ble_eq_true rfl, Nat.le_of_ble_eq_true rfl⟩) ⟨fun a U g mk q => by obtain ⟨q0, q1, qP, qK, qD⟩ := q; exact ⟨q0, q1, qP, va_K.moved (u := U) (U := U.calling g mk a) (Vm.Alike.refl U.vm) qK, qD⟩, va_recv hKc hPc (ci := 10) (q0 := 0) rfl rfl, fun U hU hW => ⟨rfl, by rw [hU], by rw [hU]; exact hPc, va_K.moved hW.alike hKc, hDc.weaken (fun _ _ _ _ => trivial)⟩⟩ rfl rfl hl.1 rfl (lv_room (Nat.le_of_ble_eq_true rfl)) dX11_feed_32 ⟨Nat.le_of_ble_eq_true rfl, Nat.le_of_ble_eq_true rfl⟩) hS (fun q _ h => hFc q h) hFc (fun ra10 u t H1 locs ht hvm hw hB hz1 hk1 hS => ?_)
  obtain ⟨hP1, hK1, hD1⟩ := hB
  rw [ht] at hP1
  obtain ⟨hP, hD⟩ := va_join (wr := [(h0, .inr (11, [.ref h1, .ref r0, .ref r1, .ref r2, .ref r3, .ref r4, .ref r5, .ref r6, .ref r7, .ref r8, .ref r9, .ref r10, .ref r11, .ref r12, .int 0, .int 5, .long 0])), (h2, .inl (g0, 240, .inl (fun _ => 0)))]) (w1 := [(h1, .inr (10, [.ref h2, .int 0, .int 0, .int (-1), .int 0]))]) hP hD [1] [0, 2] rfl rfl (by decide) (by decide) hk1 hFc hP1 hD1
  generalize H1 = H at hP hS ⊢
  have hP : va_P (dC, dI) vwCl [(h0, .inr (11, [.ref h1, .ref r0, .ref r1, .ref r2, .ref r3, .ref r4, .ref r5, .ref r6, .ref r7, .ref r8, .ref r9, .ref r10, .ref r11, .ref r12, .int 0, .int 5, .long 0])), (h2, .inl (g0, 240, .inl (fun _ => 0))), (h1, .inr (10, [.ref h2, .int 0, .int 0, .int (-1), .int 0]))] H := hP
  have hD : va_D A [(h0, .inr (11, [.ref h1, .ref r0, .ref r1, .ref r2, .ref r3, .ref r4, .ref r5, .ref r6, .ref r7, .ref r8, .ref r9, .ref r10, .ref r11, .ref r12, .int 0, .int 5, .long 0])), (h2, .inl (g0, 240, .inl (fun _ => 0))), (h1, .inr (10, [.ref h2, .int 0, .int 0, .int (-1), .int 0]))] := hD
  obtain rfl : ra10 = (0 : Int32) := hw
  refine lv_iload hx hb dX11_feed_35 (lv_at hl 0 rfl) ?_
  refine lv_iadd hx hb dX11_feed_37 ?_
  refine lv_topi (fun tv11 etv11 => ?_)
  obtain rfl : tv11 = nI (0 + (pv_b4 v0 0 + (pv_b4 v1 0) + (pv_b4 v2 0) + (pv_b4 v3 0) + (pv_b4 v4 0))) := etv11.trans (nI_add 0 (pv_b4 v0 0 + (pv_b4 v1 0) + (pv_b4 v2 0) + (pv_b4 v3 0) + (pv_b4 v4 0)))
  refine lv_sipush (v := 240) hx hb dX11_feed_38 (by decide) ?_
  refine lv_icmp_le (tgt := 46) hx hb dX11_feed_41 (by decide) (fun _ => ?_) (fun c => absurd (nI_le (a := (0 + (pv_b4 v0 0 + (pv_b4 v1 0) + (pv_b4 v2 0) + (pv_b4 v3 0) + (pv_b4 v4 0)))) (b := 240) (by (have b0 := pv_b4_le v0 0; have b1 := pv_b4_le v1 0; have b2 := pv_b4_le v2 0; have b3 := pv_b4_le v3 0; have b4 := pv_b4_le v4 0; omega)) (by decide)) c)
  refine lv_aload_n hx hb dX11_feed_46 rfl (lv_at hl 1 rfl) ?_
  refine va_get (D := (dC, dI)) (ci := 11) (v := .ref h1) (C := RX11) (T := TX11) (N := 17) hx hb hts (fun _ h => List.mem_cons_of_mem _ (List.mem_append_left _ (List.mem_append_right _ h))) hown hK hP 0 rfl rfl 0 (by decide) (hts (.fieldLink RX11 10 "LeftArguments" "tape" "LLeftArguments$Tape;") (List.mem_cons_of_mem _ (List.mem_append_left _ (List.mem_append_left _ (List.mem_of_getElem? (i := 4) rfl))))) (fun _ h9 => h9) rfl dX11_feed_47 ?_
  refine lv_iload_n hx hb dX11_feed_50 rfl (lv_at hl 2 rfl) ?_
  have hPc := hP.sub (ws' := [(h1, .inr (10, [.ref h2, .int 0, .int 0, .int (-1), .int 0])), (h2, .inl (g0, 240, .inl (fun _ => 0)))]) [2, 1] rfl
  have hDc := hD.sub (ws' := [(h1, .inr (10, [.ref h2, .int 0, .int 0, .int (-1), .int 0])), (h2, .inl (g0, 240, .inl (fun _ => 0)))]) [2, 1] (by decide) rfl
  have hKc := hK.sub (tys' := [(g0, .int)]) [0] rfl
  have hFc := va_free (wc := [(h1, .inr (10, [.ref h2, .int 0, .int 0, .int (-1), .int 0])), (h2, .inl (g0, 240, .inl (fun _ => 0)))]) hD hS hA [2, 1] rfl
  refine va_callv (va_runV (As := [.int v0]) (rest := []) ⟨hx, hb, hml, hown, hts⟩ (k_X10_add l dC dI ((fun _ => 0)) g0 h1 h2 0 v0 (Nat.le_of_ble_eq_true rfl) H.size) (cwV 1 hts g_X11_feed_6 rfl rfl rfl (by decide +kernel) ⟨Nat.le_of_ble_eq_true rfl, Nat.le_of_ble_eq_true rfl⟩) ⟨fun a U g mk q => by obtain ⟨q0, q1, qP, qK, qD⟩ := q; exact ⟨q0, q1, qP, va_K.moved (u := U) (U := U.calling g mk a) (Vm.Alike.refl U.vm) qK, qD⟩, va_recv hKc hPc (ci := 10) (q0 := 0) rfl rfl, fun U hU hW => ⟨rfl, by rw [hU], by rw [hU]; exact hPc, va_K.moved hW.alike hKc, hDc.weaken (fun _ _ _ _ => trivial)⟩⟩ rfl rfl hl.1 rfl (lv_room (Nat.le_of_ble_eq_true rfl)) dX11_feed_51 ⟨Nat.le_of_ble_eq_true rfl, Nat.le_of_ble_eq_true rfl⟩) hS (fun q _ h => hFc q h) hFc (fun u t H1 locs ht hvm hw hB hz1 hk1 hS => ?_)
  obtain ⟨k13, hP1, hK1, hD1⟩ := hB
  rw [ht] at hP1
  obtain ⟨hP, hD⟩ := va_join (wr := [(h0, .inr (11, [.ref h1, .ref r0, .ref r1, .ref r2, .ref r3, .ref r4, .ref r5, .ref r6, .ref r7, .ref r8, .ref r9, .ref r10, .ref r11, .ref r12, .int 0, .int 5, .long 0]))]) (w1 := [(h1, .inr (10, [.ref h2, .int (nI (pv_b4 v0 0)), .int 0, .int (-1), .int 0])), (h2, .inl (g0, 240, .inl k13))]) hP hD [2, 1] [0] rfl rfl (by decide) (by decide) hk1 hFc hP1 hD1
  generalize H1 = H at hP hS ⊢
  have hP : va_P (dC, dI) vwCl [(h0, .inr (11, [.ref h1, .ref r0, .ref r1, .ref r2, .ref r3, .ref r4, .ref r5, .ref r6, .ref r7, .ref r8, .ref r9, .ref r10, .ref r11, .ref r12, .int 0, .int 5, .long 0])), (h1, .inr (10, [.ref h2, .int (nI (pv_b4 v0 0)), .int 0, .int (-1), .int 0])), (h2, .inl (g0, 240, .inl k13))] H := hP
  have hD : va_D A [(h0, .inr (11, [.ref h1, .ref r0, .ref r1, .ref r2, .ref r3, .ref r4, .ref r5, .ref r6, .ref r7, .ref r8, .ref r9, .ref r10, .ref r11, .ref r12, .int 0, .int 5, .long 0])), (h1, .inr (10, [.ref h2, .int (nI (pv_b4 v0 0)), .int 0, .int (-1), .int 0])), (h2, .inl (g0, 240, .inl k13))] := hD
  refine lv_aload_n hx hb dX11_feed_54 rfl (lv_at hl 1 rfl) ?_
  refine va_get (D := (dC, dI)) (ci := 11) (v := .ref h1) (C := RX11) (T := TX11) (N := 17) hx hb hts (fun _ h => List.mem_cons_of_mem _ (List.mem_append_left _ (List.mem_append_right _ h))) hown hK hP 0 rfl rfl 0 (by decide) (hts (.fieldLink RX11 10 "LeftArguments" "tape" "LLeftArguments$Tape;") (List.mem_cons_of_mem _ (List.mem_append_left _ (List.mem_append_left _ (List.mem_of_getElem? (i := 4) rfl))))) (fun _ h9 => h9) rfl dX11_feed_55 ?_
  refine lv_iload_n hx hb dX11_feed_58 rfl (lv_at hl 3 rfl) ?_
  have hPc := hP.sub (ws' := [(h1, .inr (10, [.ref h2, .int (nI (pv_b4 v0 0)), .int 0, .int (-1), .int 0])), (h2, .inl (g0, 240, .inl k13))]) [1, 2] rfl
  have hDc := hD.sub (ws' := [(h1, .inr (10, [.ref h2, .int (nI (pv_b4 v0 0)), .int 0, .int (-1), .int 0])), (h2, .inl (g0, 240, .inl k13))]) [1, 2] (by decide) rfl
  have hKc := hK.sub (tys' := [(g0, .int)]) [0] rfl
  have hFc := va_free (wc := [(h1, .inr (10, [.ref h2, .int (nI (pv_b4 v0 0)), .int 0, .int (-1), .int 0])), (h2, .inl (g0, 240, .inl k13))]) hD hS hA [1, 2] rfl
  refine va_callv (va_runV (As := [.int v1]) (rest := []) ⟨hx, hb, hml, hown, hts⟩ (k_X10_add l dC dI k13 g0 h1 h2 ((pv_b4 v0 0)) v1 (by (have b0 := pv_b4_le v0 0; omega)) H.size) (cwV 1 hts g_X11_feed_7 rfl rfl rfl (by decide +kernel) ⟨Nat.le_of_ble_eq_true rfl, Nat.le_of_ble_eq_true rfl⟩) ⟨fun a U g mk q => by obtain ⟨q0, q1, qP, qK, qD⟩ := q; exact ⟨q0, q1, qP, va_K.moved (u := U) (U := U.calling g mk a) (Vm.Alike.refl U.vm) qK, qD⟩, va_recv hKc hPc (ci := 10) (q0 := 0) rfl rfl, fun U hU hW => ⟨rfl, by rw [hU], by rw [hU]; exact hPc, va_K.moved hW.alike hKc, hDc.weaken (fun _ _ _ _ => trivial)⟩⟩ rfl rfl hl.1 rfl (lv_room (Nat.le_of_ble_eq_true rfl)) dX11_feed_59 ⟨Nat.le_of_ble_eq_true rfl, Nat.le_of_ble_eq_true rfl⟩) hS (fun q _ h => hFc q h) hFc (fun u t H1 locs ht hvm hw hB hz1 hk1 hS => ?_)
  obtain ⟨k15, hP1, hK1, hD1⟩ := hB
  rw [ht] at hP1
  obtain ⟨hP, hD⟩ := va_join (wr := [(h0, .inr (11, [.ref h1, .ref r0, .ref r1, .ref r2, .ref r3, .ref r4, .ref r5, .ref r6, .ref r7, .ref r8, .ref r9, .ref r10, .ref r11, .ref r12, .int 0, .int 5, .long 0]))]) (w1 := [(h1, .inr (10, [.ref h2, .int (nI (pv_b4 v1 (pv_b4 v0 0))), .int 0, .int (-1), .int 0])), (h2, .inl (g0, 240, .inl k15))]) hP hD [1, 2] [0] rfl rfl (by decide) (by decide) hk1 hFc hP1 hD1
  generalize H1 = H at hP hS ⊢
  have hP : va_P (dC, dI) vwCl [(h0, .inr (11, [.ref h1, .ref r0, .ref r1, .ref r2, .ref r3, .ref r4, .ref r5, .ref r6, .ref r7, .ref r8, .ref r9, .ref r10, .ref r11, .ref r12, .int 0, .int 5, .long 0])), (h1, .inr (10, [.ref h2, .int (nI (pv_b4 v1 (pv_b4 v0 0))), .int 0, .int (-1), .int 0])), (h2, .inl (g0, 240, .inl k15))] H := hP
  have hD : va_D A [(h0, .inr (11, [.ref h1, .ref r0, .ref r1, .ref r2, .ref r3, .ref r4, .ref r5, .ref r6, .ref r7, .ref r8, .ref r9, .ref r10, .ref r11, .ref r12, .int 0, .int 5, .long 0])), (h1, .inr (10, [.ref h2, .int (nI (pv_b4 v1 (pv_b4 v0 0))), .int 0, .int (-1), .int 0])), (h2, .inl (g0, 240, .inl k15))] := hD
  refine lv_aload_n hx hb dX11_feed_62 rfl (lv_at hl 1 rfl) ?_
  refine va_get (D := (dC, dI)) (ci := 11) (v := .ref h1) (C := RX11) (T := TX11) (N := 17) hx hb hts (fun _ h => List.mem_cons_of_mem _ (List.mem_append_left _ (List.mem_append_right _ h))) hown hK hP 0 rfl rfl 0 (by decide) (hts (.fieldLink RX11 10 "LeftArguments" "tape" "LLeftArguments$Tape;") (List.mem_cons_of_mem _ (List.mem_append_left _ (List.mem_append_left _ (List.mem_of_getElem? (i := 4) rfl))))) (fun _ h9 => h9) rfl dX11_feed_63 ?_
  refine lv_iload_n hx hb dX11_feed_66 rfl (lv_at hl 4 rfl) ?_
  have hPc := hP.sub (ws' := [(h1, .inr (10, [.ref h2, .int (nI (pv_b4 v1 (pv_b4 v0 0))), .int 0, .int (-1), .int 0])), (h2, .inl (g0, 240, .inl k15))]) [1, 2] rfl
  have hDc := hD.sub (ws' := [(h1, .inr (10, [.ref h2, .int (nI (pv_b4 v1 (pv_b4 v0 0))), .int 0, .int (-1), .int 0])), (h2, .inl (g0, 240, .inl k15))]) [1, 2] (by decide) rfl
  have hKc := hK.sub (tys' := [(g0, .int)]) [0] rfl
  have hFc := va_free (wc := [(h1, .inr (10, [.ref h2, .int (nI (pv_b4 v1 (pv_b4 v0 0))), .int 0, .int (-1), .int 0])), (h2, .inl (g0, 240, .inl k15))]) hD hS hA [1, 2] rfl
  refine va_callv (va_runV (As := [.int v2]) (rest := []) ⟨hx, hb, hml, hown, hts⟩ (k_X10_add l dC dI k15 g0 h1 h2 ((pv_b4 v1 (pv_b4 v0 0))) v2 (by (have b0 := pv_b4_le v1 (pv_b4 v0 0); have b1 := pv_b4_le v0 0; omega)) H.size) (cwV 1 hts g_X11_feed_8 rfl rfl rfl (by decide +kernel) ⟨Nat.le_of_ble_eq_true rfl, Nat.le_of_ble_eq_true rfl⟩) ⟨fun a U g mk q => by obtain ⟨q0, q1, qP, qK, qD⟩ := q; exact ⟨q0, q1, qP, va_K.moved (u := U) (U := U.calling g mk a) (Vm.Alike.refl U.vm) qK, qD⟩, va_recv hKc hPc (ci := 10) (q0 := 0) rfl rfl, fun U hU hW => ⟨rfl, by rw [hU], by rw [hU]; exact hPc, va_K.moved hW.alike hKc, hDc.weaken (fun _ _ _ _ => trivial)⟩⟩ rfl rfl hl.1 rfl (lv_room (Nat.le_of_ble_eq_true rfl)) dX11_feed_67 ⟨Nat.le_of_ble_eq_true rfl, Nat.le_of_ble_eq_true rfl⟩) hS (fun q _ h => hFc q h) hFc (fun u t H1 locs ht hvm hw hB hz1 hk1 hS => ?_)
  obtain ⟨k17, hP1, hK1, hD1⟩ := hB
  rw [ht] at hP1
  obtain ⟨hP, hD⟩ := va_join (wr := [(h0, .inr (11, [.ref h1, .ref r0, .ref r1, .ref r2, .ref r3, .ref r4, .ref r5, .ref r6, .ref r7, .ref r8, .ref r9, .ref r10, .ref r11, .ref r12, .int 0, .int 5, .long 0]))]) (w1 := [(h1, .inr (10, [.ref h2, .int (nI (pv_b4 v2 (pv_b4 v1 (pv_b4 v0 0)))), .int 0, .int (-1), .int 0])), (h2, .inl (g0, 240, .inl k17))]) hP hD [1, 2] [0] rfl rfl (by decide) (by decide) hk1 hFc hP1 hD1
  generalize H1 = H at hP hS ⊢
  have hP : va_P (dC, dI) vwCl [(h0, .inr (11, [.ref h1, .ref r0, .ref r1, .ref r2, .ref r3, .ref r4, .ref r5, .ref r6, .ref r7, .ref r8, .ref r9, .ref r10, .ref r11, .ref r12, .int 0, .int 5, .long 0])), (h1, .inr (10, [.ref h2, .int (nI (pv_b4 v2 (pv_b4 v1 (pv_b4 v0 0)))), .int 0, .int (-1), .int 0])), (h2, .inl (g0, 240, .inl k17))] H := hP
  have hD : va_D A [(h0, .inr (11, [.ref h1, .ref r0, .ref r1, .ref r2, .ref r3, .ref r4, .ref r5, .ref r6, .ref r7, .ref r8, .ref r9, .ref r10, .ref r11, .ref r12, .int 0, .int 5, .long 0])), (h1, .inr (10, [.ref h2, .int (nI (pv_b4 v2 (pv_b4 v1 (pv_b4 v0 0)))), .int 0, .int (-1), .int 0])), (h2, .inl (g0, 240, .inl k17))] := hD
  refine lv_aload_n hx hb dX11_feed_70 rfl (lv_at hl 1 rfl) ?_
  refine va_get (D := (dC, dI)) (ci := 11) (v := .ref h1) (C := RX11) (T := TX11) (N := 17) hx hb hts (fun _ h => List.mem_cons_of_mem _ (List.mem_append_left _ (List.mem_append_right _ h))) hown hK hP 0 rfl rfl 0 (by decide) (hts (.fieldLink RX11 10 "LeftArguments" "tape" "LLeftArguments$Tape;") (List.mem_cons_of_mem _ (List.mem_append_left _ (List.mem_append_left _ (List.mem_of_getElem? (i := 4) rfl))))) (fun _ h9 => h9) rfl dX11_feed_71 ?_
  refine lv_iload hx hb dX11_feed_74 (lv_at hl 5 rfl) ?_
  have hPc := hP.sub (ws' := [(h1, .inr (10, [.ref h2, .int (nI (pv_b4 v2 (pv_b4 v1 (pv_b4 v0 0)))), .int 0, .int (-1), .int 0])), (h2, .inl (g0, 240, .inl k17))]) [1, 2] rfl
  have hDc := hD.sub (ws' := [(h1, .inr (10, [.ref h2, .int (nI (pv_b4 v2 (pv_b4 v1 (pv_b4 v0 0)))), .int 0, .int (-1), .int 0])), (h2, .inl (g0, 240, .inl k17))]) [1, 2] (by decide) rfl
  have hKc := hK.sub (tys' := [(g0, .int)]) [0] rfl
  have hFc := va_free (wc := [(h1, .inr (10, [.ref h2, .int (nI (pv_b4 v2 (pv_b4 v1 (pv_b4 v0 0)))), .int 0, .int (-1), .int 0])), (h2, .inl (g0, 240, .inl k17))]) hD hS hA [1, 2] rfl
  refine va_callv (va_runV (As := [.int v3]) (rest := []) ⟨hx, hb, hml, hown, hts⟩ (k_X10_add l dC dI k17 g0 h1 h2 ((pv_b4 v2 (pv_b4 v1 (pv_b4 v0 0)))) v3 (by (have b0 := pv_b4_le v2 (pv_b4 v1 (pv_b4 v0 0)); have b1 := pv_b4_le v1 (pv_b4 v0 0); have b2 := pv_b4_le v0 0; omega)) H.size) (cwV 1 hts g_X11_feed_9 rfl rfl rfl (by decide +kernel) ⟨Nat.le_of_ble_eq_true rfl, Nat.le_of_ble_eq_true rfl⟩) ⟨fun a U g mk q => by obtain ⟨q0, q1, qP, qK, qD⟩ := q; exact ⟨q0, q1, qP, va_K.moved (u := U) (U := U.calling g mk a) (Vm.Alike.refl U.vm) qK, qD⟩, va_recv hKc hPc (ci := 10) (q0 := 0) rfl rfl, fun U hU hW => ⟨rfl, by rw [hU], by rw [hU]; exact hPc, va_K.moved hW.alike hKc, hDc.weaken (fun _ _ _ _ => trivial)⟩⟩ rfl rfl hl.1 rfl (lv_room (Nat.le_of_ble_eq_true rfl)) dX11_feed_76 ⟨Nat.le_of_ble_eq_true rfl, Nat.le_of_ble_eq_true rfl⟩) hS (fun q _ h => hFc q h) hFc (fun u t H1 locs ht hvm hw hB hz1 hk1 hS => ?_)
  obtain ⟨k19, hP1, hK1, hD1⟩ := hB
  rw [ht] at hP1
  obtain ⟨hP, hD⟩ := va_join (wr := [(h0, .inr (11, [.ref h1, .ref r0, .ref r1, .ref r2, .ref r3, .ref r4, .ref r5, .ref r6, .ref r7, .ref r8, .ref r9, .ref r10, .ref r11, .ref r12, .int 0, .int 5, .long 0]))]) (w1 := [(h1, .inr (10, [.ref h2, .int (nI (pv_b4 v3 (pv_b4 v2 (pv_b4 v1 (pv_b4 v0 0))))), .int 0, .int (-1), .int 0])), (h2, .inl (g0, 240, .inl k19))]) hP hD [1, 2] [0] rfl rfl (by decide) (by decide) hk1 hFc hP1 hD1
  generalize H1 = H at hP hS ⊢
  have hP : va_P (dC, dI) vwCl [(h0, .inr (11, [.ref h1, .ref r0, .ref r1, .ref r2, .ref r3, .ref r4, .ref r5, .ref r6, .ref r7, .ref r8, .ref r9, .ref r10, .ref r11, .ref r12, .int 0, .int 5, .long 0])), (h1, .inr (10, [.ref h2, .int (nI (pv_b4 v3 (pv_b4 v2 (pv_b4 v1 (pv_b4 v0 0))))), .int 0, .int (-1), .int 0])), (h2, .inl (g0, 240, .inl k19))] H := hP
  have hD : va_D A [(h0, .inr (11, [.ref h1, .ref r0, .ref r1, .ref r2, .ref r3, .ref r4, .ref r5, .ref r6, .ref r7, .ref r8, .ref r9, .ref r10, .ref r11, .ref r12, .int 0, .int 5, .long 0])), (h1, .inr (10, [.ref h2, .int (nI (pv_b4 v3 (pv_b4 v2 (pv_b4 v1 (pv_b4 v0 0))))), .int 0, .int (-1), .int 0])), (h2, .inl (g0, 240, .inl k19))] := hD
  refine lv_aload_n hx hb dX11_feed_79 rfl (lv_at hl 1 rfl) ?_
  refine va_get (D := (dC, dI)) (ci := 11) (v := .ref h1) (C := RX11) (T := TX11) (N := 17) hx hb hts (fun _ h => List.mem_cons_of_mem _ (List.mem_append_left _ (List.mem_append_right _ h))) hown hK hP 0 rfl rfl 0 (by decide) (hts (.fieldLink RX11 10 "LeftArguments" "tape" "LLeftArguments$Tape;") (List.mem_cons_of_mem _ (List.mem_append_left _ (List.mem_append_left _ (List.mem_of_getElem? (i := 4) rfl))))) (fun _ h9 => h9) rfl dX11_feed_80 ?_
  refine lv_iload hx hb dX11_feed_83 (lv_at hl 6 rfl) ?_
  have hPc := hP.sub (ws' := [(h1, .inr (10, [.ref h2, .int (nI (pv_b4 v3 (pv_b4 v2 (pv_b4 v1 (pv_b4 v0 0))))), .int 0, .int (-1), .int 0])), (h2, .inl (g0, 240, .inl k19))]) [1, 2] rfl
  have hDc := hD.sub (ws' := [(h1, .inr (10, [.ref h2, .int (nI (pv_b4 v3 (pv_b4 v2 (pv_b4 v1 (pv_b4 v0 0))))), .int 0, .int (-1), .int 0])), (h2, .inl (g0, 240, .inl k19))]) [1, 2] (by decide) rfl
  have hKc := hK.sub (tys' := [(g0, .int)]) [0] rfl
  have hFc := va_free (wc := [(h1, .inr (10, [.ref h2, .int (nI (pv_b4 v3 (pv_b4 v2 (pv_b4 v1 (pv_b4 v0 0))))), .int 0, .int (-1), .int 0])), (h2, .inl (g0, 240, .inl k19))]) hD hS hA [1, 2] rfl
  refine va_callv (va_runV (As := [.int v4]) (rest := []) ⟨hx, hb, hml, hown, hts⟩ (k_X10_add l dC dI k19 g0 h1 h2 ((pv_b4 v3 (pv_b4 v2 (pv_b4 v1 (pv_b4 v0 0))))) v4 (by (have b0 := pv_b4_le v3 (pv_b4 v2 (pv_b4 v1 (pv_b4 v0 0))); have b1 := pv_b4_le v2 (pv_b4 v1 (pv_b4 v0 0)); have b2 := pv_b4_le v1 (pv_b4 v0 0); have b3 := pv_b4_le v0 0; omega)) H.size) (cwV 1 hts g_X11_feed_10 rfl rfl rfl (by decide +kernel) ⟨Nat.le_of_ble_eq_true rfl, Nat.le_of_ble_eq_true rfl⟩) ⟨fun a U g mk q => by obtain ⟨q0, q1, qP, qK, qD⟩ := q; exact ⟨q0, q1, qP, va_K.moved (u := U) (U := U.calling g mk a) (Vm.Alike.refl U.vm) qK, qD⟩, va_recv hKc hPc (ci := 10) (q0 := 0) rfl rfl, fun U hU hW => ⟨rfl, by rw [hU], by rw [hU]; exact hPc, va_K.moved hW.alike hKc, hDc.weaken (fun _ _ _ _ => trivial)⟩⟩ rfl rfl hl.1 rfl (lv_room (Nat.le_of_ble_eq_true rfl)) dX11_feed_85 ⟨Nat.le_of_ble_eq_true rfl, Nat.le_of_ble_eq_true rfl⟩) hS (fun q _ h => hFc q h) hFc (fun u t H1 locs ht hvm hw hB hz1 hk1 hS => ?_)
  obtain ⟨k21, hP1, hK1, hD1⟩ := hB
  rw [ht] at hP1
  obtain ⟨hP, hD⟩ := va_join (wr := [(h0, .inr (11, [.ref h1, .ref r0, .ref r1, .ref r2, .ref r3, .ref r4, .ref r5, .ref r6, .ref r7, .ref r8, .ref r9, .ref r10, .ref r11, .ref r12, .int 0, .int 5, .long 0]))]) (w1 := [(h1, .inr (10, [.ref h2, .int (nI (pv_b4 v4 (pv_b4 v3 (pv_b4 v2 (pv_b4 v1 (pv_b4 v0 0)))))), .int 0, .int (-1), .int 0])), (h2, .inl (g0, 240, .inl k21))]) hP hD [1, 2] [0] rfl rfl (by decide) (by decide) hk1 hFc hP1 hD1
  generalize H1 = H at hP hS ⊢
  have hP : va_P (dC, dI) vwCl [(h0, .inr (11, [.ref h1, .ref r0, .ref r1, .ref r2, .ref r3, .ref r4, .ref r5, .ref r6, .ref r7, .ref r8, .ref r9, .ref r10, .ref r11, .ref r12, .int 0, .int 5, .long 0])), (h1, .inr (10, [.ref h2, .int (nI (pv_b4 v4 (pv_b4 v3 (pv_b4 v2 (pv_b4 v1 (pv_b4 v0 0)))))), .int 0, .int (-1), .int 0])), (h2, .inl (g0, 240, .inl k21))] H := hP
  have hD : va_D A [(h0, .inr (11, [.ref h1, .ref r0, .ref r1, .ref r2, .ref r3, .ref r4, .ref r5, .ref r6, .ref r7, .ref r8, .ref r9, .ref r10, .ref r11, .ref r12, .int 0, .int 5, .long 0])), (h1, .inr (10, [.ref h2, .int (nI (pv_b4 v4 (pv_b4 v3 (pv_b4 v2 (pv_b4 v1 (pv_b4 v0 0)))))), .int 0, .int (-1), .int 0])), (h2, .inl (g0, 240, .inl k21))] := hD
  refine lv_aload_n hx hb dX11_feed_88 rfl (lv_at hl 1 rfl) ?_
  refine va_get (D := (dC, dI)) (ci := 11) (v := .ref h1) (C := RX11) (T := TX11) (N := 17) hx hb hts (fun _ h => List.mem_cons_of_mem _ (List.mem_append_left _ (List.mem_append_right _ h))) hown hK hP 0 rfl rfl 0 (by decide) (hts (.fieldLink RX11 10 "LeftArguments" "tape" "LLeftArguments$Tape;") (List.mem_cons_of_mem _ (List.mem_append_left _ (List.mem_append_left _ (List.mem_of_getElem? (i := 4) rfl))))) (fun _ h9 => h9) rfl dX11_feed_89 ?_
  have hPc := hP.sub (ws' := [(h1, .inr (10, [.ref h2, .int (nI (pv_b4 v4 (pv_b4 v3 (pv_b4 v2 (pv_b4 v1 (pv_b4 v0 0)))))), .int 0, .int (-1), .int 0]))]) [1] rfl
  have hDc := hD.sub (ws' := [(h1, .inr (10, [.ref h2, .int (nI (pv_b4 v4 (pv_b4 v3 (pv_b4 v2 (pv_b4 v1 (pv_b4 v0 0)))))), .int 0, .int (-1), .int 0]))]) [1] (by decide) rfl
  have hKc := hK.sub (tys' := []) [] rfl
  have hFc := va_free (wc := [(h1, .inr (10, [.ref h2, .int (nI (pv_b4 v4 (pv_b4 v3 (pv_b4 v2 (pv_b4 v1 (pv_b4 v0 0)))))), .int 0, .int (-1), .int 0]))]) hD hS hA [1] rfl
  refine va_calli (va_runV (As := []) (rest := []) ⟨hx, hb, hml, hown, hts⟩ (k_X10_used_1 l dC dI h1 h2 ((nI (pv_b4 v4 (pv_b4 v3 (pv_b4 v2 (pv_b4 v1 (pv_b4 v0 0)))))))  H.size) (cwV 0 hts g_X11_feed_11 rfl rfl rfl (by decide +kernel) ⟨Nat.le_of_ble_eq_true rfl, Nat.le_of_ble_eq_true rfl⟩) ⟨fun a U g mk q => by obtain ⟨q0, q1, qP, qK, qD⟩ := q; exact ⟨q0, q1, qP, va_K.moved (u := U) (U := U.calling g mk a) (Vm.Alike.refl U.vm) qK, qD⟩, va_recv hKc hPc (ci := 10) (q0 := 0) rfl rfl, fun U hU hW => ⟨rfl, by rw [hU], by rw [hU]; exact hPc, va_K.moved hW.alike hKc, hDc.weaken (fun _ _ _ _ => trivial)⟩⟩ rfl rfl hl.1 rfl (lv_room (Nat.le_of_ble_eq_true rfl)) dX11_feed_92 ⟨Nat.le_of_ble_eq_true rfl, Nat.le_of_ble_eq_true rfl⟩) hS (fun q _ h => hFc q h) hFc (fun ra22 u t H1 locs ht hvm hw hB hz1 hk1 hS => ?_)
  obtain ⟨hP1, hK1, hD1⟩ := hB
  rw [ht] at hP1
  obtain ⟨hP, hD⟩ := va_join (wr := [(h0, .inr (11, [.ref h1, .ref r0, .ref r1, .ref r2, .ref r3, .ref r4, .ref r5, .ref r6, .ref r7, .ref r8, .ref r9, .ref r10, .ref r11, .ref r12, .int 0, .int 5, .long 0])), (h2, .inl (g0, 240, .inl k21))]) (w1 := [(h1, .inr (10, [.ref h2, .int (nI (pv_b4 v4 (pv_b4 v3 (pv_b4 v2 (pv_b4 v1 (pv_b4 v0 0)))))), .int 0, .int (-1), .int 0]))]) hP hD [1] [0, 2] rfl rfl (by decide) (by decide) hk1 hFc hP1 hD1
  generalize H1 = H at hP hS ⊢
  have hP : va_P (dC, dI) vwCl [(h0, .inr (11, [.ref h1, .ref r0, .ref r1, .ref r2, .ref r3, .ref r4, .ref r5, .ref r6, .ref r7, .ref r8, .ref r9, .ref r10, .ref r11, .ref r12, .int 0, .int 5, .long 0])), (h2, .inl (g0, 240, .inl k21)), (h1, .inr (10, [.ref h2, .int (nI (pv_b4 v4 (pv_b4 v3 (pv_b4 v2 (pv_b4 v1 (pv_b4 v0 0)))))), .int 0, .int (-1), .int 0]))] H := hP
  have hD : va_D A [(h0, .inr (11, [.ref h1, .ref r0, .ref r1, .ref r2, .ref r3, .ref r4, .ref r5, .ref r6, .ref r7, .ref r8, .ref r9, .ref r10, .ref r11, .ref r12, .int 0, .int 5, .long 0])), (h2, .inl (g0, 240, .inl k21)), (h1, .inr (10, [.ref h2, .int (nI (pv_b4 v4 (pv_b4 v3 (pv_b4 v2 (pv_b4 v1 (pv_b4 v0 0)))))), .int 0, .int (-1), .int 0]))] := hD
  obtain rfl : ra22 = (nI (pv_b4 v4 (pv_b4 v3 (pv_b4 v2 (pv_b4 v1 (pv_b4 v0 0)))))) := hw
  have hP9 := hP.sub (ws' := []) [] rfl
  have hD9 := hD.sub (ws' := []) [] (by decide) rfl
  have hK9 := hK.sub (tys' := []) [] rfl
  exact W.iret (v := (nI (pv_b4 v4 (pv_b4 v3 (pv_b4 v2 (pv_b4 v1 (pv_b4 v0 0))))))) hx hb hr (fun t ht hW => ⟨⟨(nI (pv_b4 v4 (pv_b4 v3 (pv_b4 v2 (pv_b4 v1 (pv_b4 v0 0)))))), (), rfl, rfl, by rw [ht]; exact hP9, va_K.moved hW.alike hK9, hD9⟩, hS.F ht⟩) hS.2.2 dX11_feed_95
def q_X12_byteOf : List Cond := .code yX12_byteOf cX12_byteOf 7 (some .int) :: (([] : List Cond))
set_option maxHeartbeats 4000000 in
set_option maxRecDepth 100000 in
theorem k_X12_byteOf (l : Launch) (dC : Nat → ClassId) (dI : Nat → Nat → Nat) (v0 v1 v2 v3 v4 : Int32) (sz : Nat) : Met l yX12_byteOf q_X12_byteOf ({ frames := 0, cells := 0, slots := 0, locals := 0 }) (va_Pc [.int v0, .int v1, .int v2, .int v3, .int v4, .int 0] (fun U => U.heap.size = sz ∧ va_P (dC, dI) vwCl [] U.heap ∧ va_K (dC, dI) vwCl [] U ∧ va_D (fun _ => True) [])) (va_Qi (fun (r : Int32) (_ : Unit) => r = ((v0 >>> (24 &&& 31)) &&& 255)) (fun (_ : Unit) (t : State) => va_P (dC, dI) vwCl [] t.heap ∧ va_K (dC, dI) vwCl [] t ∧ va_D (va_A [] sz) []) (va_A [] sz)) 0 0 (va_A [] sz) := by
  refine Met.ofW (cc := cX12_byteOf) (maxL := 7) (ret := (some .int)) (by decide) rfl ?_
  intro p e s m args below meth c s₁ B hml hv
  obtain ⟨rfl, hsz, hP, hK, hD0⟩ := hv
  have hx := B.exec
  have hb := B.bytes
  have hr := B.returns
  have hts := atoms_spec (ws := q_X12_byteOf) B.pre
  have hown : s.vm.findClass RX12 = some m.cls := findClass_of_methodNamed B.named
  have hlocks := B.notSynchronized
  subst hsz
  have hD := hD0.self (sz := s.heap.size)
  generalize hAe : va_A [] s.heap.size = A at hD ⊢
  have hA : ∀ q : Nat, s.heap.size ≤ q → A q := fun q h => by rw [← hAe]; exact Or.inr h
  have hS : va_S A s.heap s.heap [] := va_S.rf
  have hl := lv_entry ([.int v0, .int v1, .int v2, .int v3, .int v4, .int 0]) (n := 7) (Nat.le_of_ble_eq_true rfl)
  rw [lg_entry_eq]
  generalize (lg_sl ([.int v0, .int v1, .int v2, .int v3, .int v4, .int 0]) ++ List.replicate (7 - (lg_sl ([.int v0, .int v1, .int v2, .int v3, .int v4, .int 0])).length) Slot.unset).toArray = ls at hl ⊢
  have hl : lv_has ls 7 [(0, .int v0), (1, .int v1), (2, .int v2), (3, .int v3), (4, .int v4), (5, .int 0)] := hl
  refine lv_iload hx hb dX12_byteOf_0 (lv_at hl 5 rfl) ?_
  refine lv_iconst (v := 4) hx hb dX12_byteOf_2 (by decide) ?_
  refine lv_icmp_ge (tgt := 10) hx hb dX12_byteOf_3 (by decide) (fun c => absurd c (by decide)) (fun _ => ?_)
  refine lv_iload_n hx hb dX12_byteOf_6 rfl (lv_at hl 0 rfl) ?_
  refine lv_goto (tgt := 45) hx hb dX12_byteOf_7 (by decide) ?_
  refine lv_istore (lv' := [(6, .int v0), (0, .int v0), (1, .int v1), (2, .int v2), (3, .int v3), (4, .int v4), (5, .int 0)]) hx hb dX12_byteOf_45 hl (by decide) rfl (fun ls hl => ?_)
  refine lv_iload hx hb dX12_byteOf_47 (lv_at hl 0 rfl) ?_
  refine lv_bipush (v := 24) hx hb dX12_byteOf_49 (by decide) ?_
  refine lv_bipush (v := 8) hx hb dX12_byteOf_51 (by decide) ?_
  refine lv_iload hx hb dX12_byteOf_53 (lv_at hl 6 rfl) ?_
  refine lv_iconst (v := 4) hx hb dX12_byteOf_55 (by decide) ?_
  refine lv_irem hx hb dX12_byteOf_56 (by decide) ?_
  refine lv_topi (fun tv1 etv1 => ?_)
  obtain rfl : tv1 = (0 : Int32) := etv1.trans (by first | rfl | decide)
  refine lv_imul hx hb dX12_byteOf_57 ?_
  refine lv_topi (fun tv2 etv2 => ?_)
  obtain rfl : tv2 = (0 : Int32) := etv2.trans (by first | rfl | decide)
  refine lv_isub hx hb dX12_byteOf_58 ?_
  refine lv_topi (fun tv3 etv3 => ?_)
  obtain rfl : tv3 = (24 : Int32) := etv3.trans (by first | rfl | decide)
  refine lv_ishr hx hb dX12_byteOf_59 ?_
  refine lv_sipush (v := 255) hx hb dX12_byteOf_60 (by decide) ?_
  refine lv_iand hx hb dX12_byteOf_63 ?_
  have hP9 := hP.sub (ws' := []) [] rfl
  have hD9 := hD.sub (ws' := []) [] (by decide) rfl
  have hK9 := hK.sub (tys' := []) [] rfl
  exact W.iret (v := ((v0 >>> (24 &&& 31)) &&& 255)) hx hb hr (fun t ht hW => ⟨⟨((v0 >>> (24 &&& 31)) &&& 255), (), rfl, rfl, by rw [ht]; exact hP9, va_K.moved hW.alike hK9, hD9⟩, hS.F ht⟩) hS.2.2 dX12_byteOf_64
def q_X12_byteOf_1 : List Cond := .code yX12_byteOf cX12_byteOf 7 (some .int) :: (([] : List Cond))
set_option maxHeartbeats 4000000 in
set_option maxRecDepth 100000 in
theorem k_X12_byteOf_1 (l : Launch) (dC : Nat → ClassId) (dI : Nat → Nat → Nat) (v0 v1 v2 v3 v4 : Int32) (sz : Nat) : Met l yX12_byteOf q_X12_byteOf_1 ({ frames := 0, cells := 0, slots := 0, locals := 0 }) (va_Pc [.int v0, .int v1, .int v2, .int v3, .int v4, .int 1] (fun U => U.heap.size = sz ∧ va_P (dC, dI) vwCl [] U.heap ∧ va_K (dC, dI) vwCl [] U ∧ va_D (fun _ => True) [])) (va_Qi (fun (r : Int32) (_ : Unit) => r = ((v0 >>> (16 &&& 31)) &&& 255)) (fun (_ : Unit) (t : State) => va_P (dC, dI) vwCl [] t.heap ∧ va_K (dC, dI) vwCl [] t ∧ va_D (va_A [] sz) []) (va_A [] sz)) 0 0 (va_A [] sz) := by
  refine Met.ofW (cc := cX12_byteOf) (maxL := 7) (ret := (some .int)) (by decide) rfl ?_
  intro p e s m args below meth c s₁ B hml hv
  obtain ⟨rfl, hsz, hP, hK, hD0⟩ := hv
  have hx := B.exec
  have hb := B.bytes
  have hr := B.returns
  have hts := atoms_spec (ws := q_X12_byteOf_1) B.pre
  have hown : s.vm.findClass RX12 = some m.cls := findClass_of_methodNamed B.named
  have hlocks := B.notSynchronized
  subst hsz
  have hD := hD0.self (sz := s.heap.size)
  generalize hAe : va_A [] s.heap.size = A at hD ⊢
  have hA : ∀ q : Nat, s.heap.size ≤ q → A q := fun q h => by rw [← hAe]; exact Or.inr h
  have hS : va_S A s.heap s.heap [] := va_S.rf
  have hl := lv_entry ([.int v0, .int v1, .int v2, .int v3, .int v4, .int 1]) (n := 7) (Nat.le_of_ble_eq_true rfl)
  rw [lg_entry_eq]
  generalize (lg_sl ([.int v0, .int v1, .int v2, .int v3, .int v4, .int 1]) ++ List.replicate (7 - (lg_sl ([.int v0, .int v1, .int v2, .int v3, .int v4, .int 1])).length) Slot.unset).toArray = ls at hl ⊢
  have hl : lv_has ls 7 [(0, .int v0), (1, .int v1), (2, .int v2), (3, .int v3), (4, .int v4), (5, .int 1)] := hl
  refine lv_iload hx hb dX12_byteOf_0 (lv_at hl 5 rfl) ?_
  refine lv_iconst (v := 4) hx hb dX12_byteOf_2 (by decide) ?_
  refine lv_icmp_ge (tgt := 10) hx hb dX12_byteOf_3 (by decide) (fun c => absurd c (by decide)) (fun _ => ?_)
  refine lv_iload_n hx hb dX12_byteOf_6 rfl (lv_at hl 0 rfl) ?_
  refine lv_goto (tgt := 45) hx hb dX12_byteOf_7 (by decide) ?_
  refine lv_istore (lv' := [(6, .int v0), (0, .int v0), (1, .int v1), (2, .int v2), (3, .int v3), (4, .int v4), (5, .int 1)]) hx hb dX12_byteOf_45 hl (by decide) rfl (fun ls hl => ?_)
  refine lv_iload hx hb dX12_byteOf_47 (lv_at hl 0 rfl) ?_
  refine lv_bipush (v := 24) hx hb dX12_byteOf_49 (by decide) ?_
  refine lv_bipush (v := 8) hx hb dX12_byteOf_51 (by decide) ?_
  refine lv_iload hx hb dX12_byteOf_53 (lv_at hl 6 rfl) ?_
  refine lv_iconst (v := 4) hx hb dX12_byteOf_55 (by decide) ?_
  refine lv_irem hx hb dX12_byteOf_56 (by decide) ?_
  refine lv_topi (fun tv1 etv1 => ?_)
  obtain rfl : tv1 = (1 : Int32) := etv1.trans (by first | rfl | decide)
  refine lv_imul hx hb dX12_byteOf_57 ?_
  refine lv_topi (fun tv2 etv2 => ?_)
  obtain rfl : tv2 = (8 : Int32) := etv2.trans (by first | rfl | decide)
  refine lv_isub hx hb dX12_byteOf_58 ?_
  refine lv_topi (fun tv3 etv3 => ?_)
  obtain rfl : tv3 = (16 : Int32) := etv3.trans (by first | rfl | decide)
  refine lv_ishr hx hb dX12_byteOf_59 ?_
  refine lv_sipush (v := 255) hx hb dX12_byteOf_60 (by decide) ?_
  refine lv_iand hx hb dX12_byteOf_63 ?_
  have hP9 := hP.sub (ws' := []) [] rfl
  have hD9 := hD.sub (ws' := []) [] (by decide) rfl
  have hK9 := hK.sub (tys' := []) [] rfl
  exact W.iret (v := ((v0 >>> (16 &&& 31)) &&& 255)) hx hb hr (fun t ht hW => ⟨⟨((v0 >>> (16 &&& 31)) &&& 255), (), rfl, rfl, by rw [ht]; exact hP9, va_K.moved hW.alike hK9, hD9⟩, hS.F ht⟩) hS.2.2 dX12_byteOf_64
def q_X12_byteOf_2 : List Cond := .code yX12_byteOf cX12_byteOf 7 (some .int) :: (([] : List Cond))
set_option maxHeartbeats 4000000 in
set_option maxRecDepth 100000 in
theorem k_X12_byteOf_2 (l : Launch) (dC : Nat → ClassId) (dI : Nat → Nat → Nat) (v0 v1 v2 v3 v4 : Int32) (sz : Nat) : Met l yX12_byteOf q_X12_byteOf_2 ({ frames := 0, cells := 0, slots := 0, locals := 0 }) (va_Pc [.int v0, .int v1, .int v2, .int v3, .int v4, .int 2] (fun U => U.heap.size = sz ∧ va_P (dC, dI) vwCl [] U.heap ∧ va_K (dC, dI) vwCl [] U ∧ va_D (fun _ => True) [])) (va_Qi (fun (r : Int32) (_ : Unit) => r = ((v0 >>> (8 &&& 31)) &&& 255)) (fun (_ : Unit) (t : State) => va_P (dC, dI) vwCl [] t.heap ∧ va_K (dC, dI) vwCl [] t ∧ va_D (va_A [] sz) []) (va_A [] sz)) 0 0 (va_A [] sz) := by
  refine Met.ofW (cc := cX12_byteOf) (maxL := 7) (ret := (some .int)) (by decide) rfl ?_
  intro p e s m args below meth c s₁ B hml hv
  obtain ⟨rfl, hsz, hP, hK, hD0⟩ := hv
  have hx := B.exec
  have hb := B.bytes
  have hr := B.returns
  have hts := atoms_spec (ws := q_X12_byteOf_2) B.pre
  have hown : s.vm.findClass RX12 = some m.cls := findClass_of_methodNamed B.named
  have hlocks := B.notSynchronized
  subst hsz
  have hD := hD0.self (sz := s.heap.size)
  generalize hAe : va_A [] s.heap.size = A at hD ⊢
  have hA : ∀ q : Nat, s.heap.size ≤ q → A q := fun q h => by rw [← hAe]; exact Or.inr h
  have hS : va_S A s.heap s.heap [] := va_S.rf
  have hl := lv_entry ([.int v0, .int v1, .int v2, .int v3, .int v4, .int 2]) (n := 7) (Nat.le_of_ble_eq_true rfl)
  rw [lg_entry_eq]
  generalize (lg_sl ([.int v0, .int v1, .int v2, .int v3, .int v4, .int 2]) ++ List.replicate (7 - (lg_sl ([.int v0, .int v1, .int v2, .int v3, .int v4, .int 2])).length) Slot.unset).toArray = ls at hl ⊢
  have hl : lv_has ls 7 [(0, .int v0), (1, .int v1), (2, .int v2), (3, .int v3), (4, .int v4), (5, .int 2)] := hl
  refine lv_iload hx hb dX12_byteOf_0 (lv_at hl 5 rfl) ?_
  refine lv_iconst (v := 4) hx hb dX12_byteOf_2 (by decide) ?_
  refine lv_icmp_ge (tgt := 10) hx hb dX12_byteOf_3 (by decide) (fun c => absurd c (by decide)) (fun _ => ?_)
  refine lv_iload_n hx hb dX12_byteOf_6 rfl (lv_at hl 0 rfl) ?_
  refine lv_goto (tgt := 45) hx hb dX12_byteOf_7 (by decide) ?_
  refine lv_istore (lv' := [(6, .int v0), (0, .int v0), (1, .int v1), (2, .int v2), (3, .int v3), (4, .int v4), (5, .int 2)]) hx hb dX12_byteOf_45 hl (by decide) rfl (fun ls hl => ?_)
  refine lv_iload hx hb dX12_byteOf_47 (lv_at hl 0 rfl) ?_
  refine lv_bipush (v := 24) hx hb dX12_byteOf_49 (by decide) ?_
  refine lv_bipush (v := 8) hx hb dX12_byteOf_51 (by decide) ?_
  refine lv_iload hx hb dX12_byteOf_53 (lv_at hl 6 rfl) ?_
  refine lv_iconst (v := 4) hx hb dX12_byteOf_55 (by decide) ?_
  refine lv_irem hx hb dX12_byteOf_56 (by decide) ?_
  refine lv_topi (fun tv1 etv1 => ?_)
  obtain rfl : tv1 = (2 : Int32) := etv1.trans (by first | rfl | decide)
  refine lv_imul hx hb dX12_byteOf_57 ?_
  refine lv_topi (fun tv2 etv2 => ?_)
  obtain rfl : tv2 = (16 : Int32) := etv2.trans (by first | rfl | decide)
  refine lv_isub hx hb dX12_byteOf_58 ?_
  refine lv_topi (fun tv3 etv3 => ?_)
  obtain rfl : tv3 = (8 : Int32) := etv3.trans (by first | rfl | decide)
  refine lv_ishr hx hb dX12_byteOf_59 ?_
  refine lv_sipush (v := 255) hx hb dX12_byteOf_60 (by decide) ?_
  refine lv_iand hx hb dX12_byteOf_63 ?_
  have hP9 := hP.sub (ws' := []) [] rfl
  have hD9 := hD.sub (ws' := []) [] (by decide) rfl
  have hK9 := hK.sub (tys' := []) [] rfl
  exact W.iret (v := ((v0 >>> (8 &&& 31)) &&& 255)) hx hb hr (fun t ht hW => ⟨⟨((v0 >>> (8 &&& 31)) &&& 255), (), rfl, rfl, by rw [ht]; exact hP9, va_K.moved hW.alike hK9, hD9⟩, hS.F ht⟩) hS.2.2 dX12_byteOf_64
def q_X12_byteOf_3 : List Cond := .code yX12_byteOf cX12_byteOf 7 (some .int) :: (([] : List Cond))
set_option maxHeartbeats 4000000 in
set_option maxRecDepth 100000 in
theorem k_X12_byteOf_3 (l : Launch) (dC : Nat → ClassId) (dI : Nat → Nat → Nat) (v0 v1 v2 v3 v4 : Int32) (sz : Nat) : Met l yX12_byteOf q_X12_byteOf_3 ({ frames := 0, cells := 0, slots := 0, locals := 0 }) (va_Pc [.int v0, .int v1, .int v2, .int v3, .int v4, .int 3] (fun U => U.heap.size = sz ∧ va_P (dC, dI) vwCl [] U.heap ∧ va_K (dC, dI) vwCl [] U ∧ va_D (fun _ => True) [])) (va_Qi (fun (r : Int32) (_ : Unit) => r = ((v0 >>> (0 &&& 31)) &&& 255)) (fun (_ : Unit) (t : State) => va_P (dC, dI) vwCl [] t.heap ∧ va_K (dC, dI) vwCl [] t ∧ va_D (va_A [] sz) []) (va_A [] sz)) 0 0 (va_A [] sz) := by
  refine Met.ofW (cc := cX12_byteOf) (maxL := 7) (ret := (some .int)) (by decide) rfl ?_
  intro p e s m args below meth c s₁ B hml hv
  obtain ⟨rfl, hsz, hP, hK, hD0⟩ := hv
  have hx := B.exec
  have hb := B.bytes
  have hr := B.returns
  have hts := atoms_spec (ws := q_X12_byteOf_3) B.pre
  have hown : s.vm.findClass RX12 = some m.cls := findClass_of_methodNamed B.named
  have hlocks := B.notSynchronized
  subst hsz
  have hD := hD0.self (sz := s.heap.size)
  generalize hAe : va_A [] s.heap.size = A at hD ⊢
  have hA : ∀ q : Nat, s.heap.size ≤ q → A q := fun q h => by rw [← hAe]; exact Or.inr h
  have hS : va_S A s.heap s.heap [] := va_S.rf
  have hl := lv_entry ([.int v0, .int v1, .int v2, .int v3, .int v4, .int 3]) (n := 7) (Nat.le_of_ble_eq_true rfl)
  rw [lg_entry_eq]
  generalize (lg_sl ([.int v0, .int v1, .int v2, .int v3, .int v4, .int 3]) ++ List.replicate (7 - (lg_sl ([.int v0, .int v1, .int v2, .int v3, .int v4, .int 3])).length) Slot.unset).toArray = ls at hl ⊢
  have hl : lv_has ls 7 [(0, .int v0), (1, .int v1), (2, .int v2), (3, .int v3), (4, .int v4), (5, .int 3)] := hl
  refine lv_iload hx hb dX12_byteOf_0 (lv_at hl 5 rfl) ?_
  refine lv_iconst (v := 4) hx hb dX12_byteOf_2 (by decide) ?_
  refine lv_icmp_ge (tgt := 10) hx hb dX12_byteOf_3 (by decide) (fun c => absurd c (by decide)) (fun _ => ?_)
  refine lv_iload_n hx hb dX12_byteOf_6 rfl (lv_at hl 0 rfl) ?_
  refine lv_goto (tgt := 45) hx hb dX12_byteOf_7 (by decide) ?_
  refine lv_istore (lv' := [(6, .int v0), (0, .int v0), (1, .int v1), (2, .int v2), (3, .int v3), (4, .int v4), (5, .int 3)]) hx hb dX12_byteOf_45 hl (by decide) rfl (fun ls hl => ?_)
  refine lv_iload hx hb dX12_byteOf_47 (lv_at hl 0 rfl) ?_
  refine lv_bipush (v := 24) hx hb dX12_byteOf_49 (by decide) ?_
  refine lv_bipush (v := 8) hx hb dX12_byteOf_51 (by decide) ?_
  refine lv_iload hx hb dX12_byteOf_53 (lv_at hl 6 rfl) ?_
  refine lv_iconst (v := 4) hx hb dX12_byteOf_55 (by decide) ?_
  refine lv_irem hx hb dX12_byteOf_56 (by decide) ?_
  refine lv_topi (fun tv1 etv1 => ?_)
  obtain rfl : tv1 = (3 : Int32) := etv1.trans (by first | rfl | decide)
  refine lv_imul hx hb dX12_byteOf_57 ?_
  refine lv_topi (fun tv2 etv2 => ?_)
  obtain rfl : tv2 = (24 : Int32) := etv2.trans (by first | rfl | decide)
  refine lv_isub hx hb dX12_byteOf_58 ?_
  refine lv_topi (fun tv3 etv3 => ?_)
  obtain rfl : tv3 = (0 : Int32) := etv3.trans (by first | rfl | decide)
  refine lv_ishr hx hb dX12_byteOf_59 ?_
  refine lv_sipush (v := 255) hx hb dX12_byteOf_60 (by decide) ?_
  refine lv_iand hx hb dX12_byteOf_63 ?_
  have hP9 := hP.sub (ws' := []) [] rfl
  have hD9 := hD.sub (ws' := []) [] (by decide) rfl
  have hK9 := hK.sub (tys' := []) [] rfl
  exact W.iret (v := ((v0 >>> (0 &&& 31)) &&& 255)) hx hb hr (fun t ht hW => ⟨⟨((v0 >>> (0 &&& 31)) &&& 255), (), rfl, rfl, by rw [ht]; exact hP9, va_K.moved hW.alike hK9, hD9⟩, hS.F ht⟩) hS.2.2 dX12_byteOf_64
def q_X12_byteOf_4 : List Cond := .code yX12_byteOf cX12_byteOf 7 (some .int) :: (([] : List Cond))
set_option maxHeartbeats 4000000 in
set_option maxRecDepth 100000 in
theorem k_X12_byteOf_4 (l : Launch) (dC : Nat → ClassId) (dI : Nat → Nat → Nat) (v0 v1 v2 v3 v4 : Int32) (sz : Nat) : Met l yX12_byteOf q_X12_byteOf_4 ({ frames := 0, cells := 0, slots := 0, locals := 0 }) (va_Pc [.int v0, .int v1, .int v2, .int v3, .int v4, .int 4] (fun U => U.heap.size = sz ∧ va_P (dC, dI) vwCl [] U.heap ∧ va_K (dC, dI) vwCl [] U ∧ va_D (fun _ => True) [])) (va_Qi (fun (r : Int32) (_ : Unit) => r = ((v1 >>> (24 &&& 31)) &&& 255)) (fun (_ : Unit) (t : State) => va_P (dC, dI) vwCl [] t.heap ∧ va_K (dC, dI) vwCl [] t ∧ va_D (va_A [] sz) []) (va_A [] sz)) 0 0 (va_A [] sz) := by
  refine Met.ofW (cc := cX12_byteOf) (maxL := 7) (ret := (some .int)) (by decide) rfl ?_
  intro p e s m args below meth c s₁ B hml hv
  obtain ⟨rfl, hsz, hP, hK, hD0⟩ := hv
  have hx := B.exec
  have hb := B.bytes
  have hr := B.returns
  have hts := atoms_spec (ws := q_X12_byteOf_4) B.pre
  have hown : s.vm.findClass RX12 = some m.cls := findClass_of_methodNamed B.named
  have hlocks := B.notSynchronized
  subst hsz
  have hD := hD0.self (sz := s.heap.size)
  generalize hAe : va_A [] s.heap.size = A at hD ⊢
  have hA : ∀ q : Nat, s.heap.size ≤ q → A q := fun q h => by rw [← hAe]; exact Or.inr h
  have hS : va_S A s.heap s.heap [] := va_S.rf
  have hl := lv_entry ([.int v0, .int v1, .int v2, .int v3, .int v4, .int 4]) (n := 7) (Nat.le_of_ble_eq_true rfl)
  rw [lg_entry_eq]
  generalize (lg_sl ([.int v0, .int v1, .int v2, .int v3, .int v4, .int 4]) ++ List.replicate (7 - (lg_sl ([.int v0, .int v1, .int v2, .int v3, .int v4, .int 4])).length) Slot.unset).toArray = ls at hl ⊢
  have hl : lv_has ls 7 [(0, .int v0), (1, .int v1), (2, .int v2), (3, .int v3), (4, .int v4), (5, .int 4)] := hl
  refine lv_iload hx hb dX12_byteOf_0 (lv_at hl 5 rfl) ?_
  refine lv_iconst (v := 4) hx hb dX12_byteOf_2 (by decide) ?_
  refine lv_icmp_ge (tgt := 10) hx hb dX12_byteOf_3 (by decide) (fun _ => ?_) (fun c => absurd (by decide) c)
  refine lv_iload hx hb dX12_byteOf_10 (lv_at hl 5 rfl) ?_
  refine lv_bipush (v := 8) hx hb dX12_byteOf_12 (by decide) ?_
  refine lv_icmp_ge (tgt := 21) hx hb dX12_byteOf_14 (by decide) (fun c => absurd c (by decide)) (fun _ => ?_)
  refine lv_iload_n hx hb dX12_byteOf_17 rfl (lv_at hl 1 rfl) ?_
  refine lv_goto (tgt := 45) hx hb dX12_byteOf_18 (by decide) ?_
  refine lv_istore (lv' := [(6, .int v1), (0, .int v0), (1, .int v1), (2, .int v2), (3, .int v3), (4, .int v4), (5, .int 4)]) hx hb dX12_byteOf_45 hl (by decide) rfl (fun ls hl => ?_)
  refine lv_iload hx hb dX12_byteOf_47 (lv_at hl 0 rfl) ?_
  refine lv_bipush (v := 24) hx hb dX12_byteOf_49 (by decide) ?_
  refine lv_bipush (v := 8) hx hb dX12_byteOf_51 (by decide) ?_
  refine lv_iload hx hb dX12_byteOf_53 (lv_at hl 6 rfl) ?_
  refine lv_iconst (v := 4) hx hb dX12_byteOf_55 (by decide) ?_
  refine lv_irem hx hb dX12_byteOf_56 (by decide) ?_
  refine lv_topi (fun tv1 etv1 => ?_)
  obtain rfl : tv1 = (0 : Int32) := etv1.trans (by first | rfl | decide)
  refine lv_imul hx hb dX12_byteOf_57 ?_
  refine lv_topi (fun tv2 etv2 => ?_)
  obtain rfl : tv2 = (0 : Int32) := etv2.trans (by first | rfl | decide)
  refine lv_isub hx hb dX12_byteOf_58 ?_
  refine lv_topi (fun tv3 etv3 => ?_)
  obtain rfl : tv3 = (24 : Int32) := etv3.trans (by first | rfl | decide)
  refine lv_ishr hx hb dX12_byteOf_59 ?_
  refine lv_sipush (v := 255) hx hb dX12_byteOf_60 (by decide) ?_
  refine lv_iand hx hb dX12_byteOf_63 ?_
  have hP9 := hP.sub (ws' := []) [] rfl
  have hD9 := hD.sub (ws' := []) [] (by decide) rfl
  have hK9 := hK.sub (tys' := []) [] rfl
  exact W.iret (v := ((v1 >>> (24 &&& 31)) &&& 255)) hx hb hr (fun t ht hW => ⟨⟨((v1 >>> (24 &&& 31)) &&& 255), (), rfl, rfl, by rw [ht]; exact hP9, va_K.moved hW.alike hK9, hD9⟩, hS.F ht⟩) hS.2.2 dX12_byteOf_64
def q_X12_byteOf_5 : List Cond := .code yX12_byteOf cX12_byteOf 7 (some .int) :: (([] : List Cond))
set_option maxHeartbeats 4000000 in
set_option maxRecDepth 100000 in
theorem k_X12_byteOf_5 (l : Launch) (dC : Nat → ClassId) (dI : Nat → Nat → Nat) (v0 v1 v2 v3 v4 : Int32) (sz : Nat) : Met l yX12_byteOf q_X12_byteOf_5 ({ frames := 0, cells := 0, slots := 0, locals := 0 }) (va_Pc [.int v0, .int v1, .int v2, .int v3, .int v4, .int 5] (fun U => U.heap.size = sz ∧ va_P (dC, dI) vwCl [] U.heap ∧ va_K (dC, dI) vwCl [] U ∧ va_D (fun _ => True) [])) (va_Qi (fun (r : Int32) (_ : Unit) => r = ((v1 >>> (16 &&& 31)) &&& 255)) (fun (_ : Unit) (t : State) => va_P (dC, dI) vwCl [] t.heap ∧ va_K (dC, dI) vwCl [] t ∧ va_D (va_A [] sz) []) (va_A [] sz)) 0 0 (va_A [] sz) := by
  refine Met.ofW (cc := cX12_byteOf) (maxL := 7) (ret := (some .int)) (by decide) rfl ?_
  intro p e s m args below meth c s₁ B hml hv
  obtain ⟨rfl, hsz, hP, hK, hD0⟩ := hv
  have hx := B.exec
  have hb := B.bytes
  have hr := B.returns
  have hts := atoms_spec (ws := q_X12_byteOf_5) B.pre
  have hown : s.vm.findClass RX12 = some m.cls := findClass_of_methodNamed B.named
  have hlocks := B.notSynchronized
  subst hsz
  have hD := hD0.self (sz := s.heap.size)
  generalize hAe : va_A [] s.heap.size = A at hD ⊢
  have hA : ∀ q : Nat, s.heap.size ≤ q → A q := fun q h => by rw [← hAe]; exact Or.inr h
  have hS : va_S A s.heap s.heap [] := va_S.rf
  have hl := lv_entry ([.int v0, .int v1, .int v2, .int v3, .int v4, .int 5]) (n := 7) (Nat.le_of_ble_eq_true rfl)
  rw [lg_entry_eq]
  generalize (lg_sl ([.int v0, .int v1, .int v2, .int v3, .int v4, .int 5]) ++ List.replicate (7 - (lg_sl ([.int v0, .int v1, .int v2, .int v3, .int v4, .int 5])).length) Slot.unset).toArray = ls at hl ⊢
  have hl : lv_has ls 7 [(0, .int v0), (1, .int v1), (2, .int v2), (3, .int v3), (4, .int v4), (5, .int 5)] := hl
  refine lv_iload hx hb dX12_byteOf_0 (lv_at hl 5 rfl) ?_
  refine lv_iconst (v := 4) hx hb dX12_byteOf_2 (by decide) ?_
  refine lv_icmp_ge (tgt := 10) hx hb dX12_byteOf_3 (by decide) (fun _ => ?_) (fun c => absurd (by decide) c)
  refine lv_iload hx hb dX12_byteOf_10 (lv_at hl 5 rfl) ?_
  refine lv_bipush (v := 8) hx hb dX12_byteOf_12 (by decide) ?_
  refine lv_icmp_ge (tgt := 21) hx hb dX12_byteOf_14 (by decide) (fun c => absurd c (by decide)) (fun _ => ?_)
  refine lv_iload_n hx hb dX12_byteOf_17 rfl (lv_at hl 1 rfl) ?_
  refine lv_goto (tgt := 45) hx hb dX12_byteOf_18 (by decide) ?_
  refine lv_istore (lv' := [(6, .int v1), (0, .int v0), (1, .int v1), (2, .int v2), (3, .int v3), (4, .int v4), (5, .int 5)]) hx hb dX12_byteOf_45 hl (by decide) rfl (fun ls hl => ?_)
  refine lv_iload hx hb dX12_byteOf_47 (lv_at hl 0 rfl) ?_
  refine lv_bipush (v := 24) hx hb dX12_byteOf_49 (by decide) ?_
  refine lv_bipush (v := 8) hx hb dX12_byteOf_51 (by decide) ?_
  refine lv_iload hx hb dX12_byteOf_53 (lv_at hl 6 rfl) ?_
  refine lv_iconst (v := 4) hx hb dX12_byteOf_55 (by decide) ?_
  refine lv_irem hx hb dX12_byteOf_56 (by decide) ?_
  refine lv_topi (fun tv1 etv1 => ?_)
  obtain rfl : tv1 = (1 : Int32) := etv1.trans (by first | rfl | decide)
  refine lv_imul hx hb dX12_byteOf_57 ?_
  refine lv_topi (fun tv2 etv2 => ?_)
  obtain rfl : tv2 = (8 : Int32) := etv2.trans (by first | rfl | decide)
  refine lv_isub hx hb dX12_byteOf_58 ?_
  refine lv_topi (fun tv3 etv3 => ?_)
  obtain rfl : tv3 = (16 : Int32) := etv3.trans (by first | rfl | decide)
  refine lv_ishr hx hb dX12_byteOf_59 ?_
  refine lv_sipush (v := 255) hx hb dX12_byteOf_60 (by decide) ?_
  refine lv_iand hx hb dX12_byteOf_63 ?_
  have hP9 := hP.sub (ws' := []) [] rfl
  have hD9 := hD.sub (ws' := []) [] (by decide) rfl
  have hK9 := hK.sub (tys' := []) [] rfl
  exact W.iret (v := ((v1 >>> (16 &&& 31)) &&& 255)) hx hb hr (fun t ht hW => ⟨⟨((v1 >>> (16 &&& 31)) &&& 255), (), rfl, rfl, by rw [ht]; exact hP9, va_K.moved hW.alike hK9, hD9⟩, hS.F ht⟩) hS.2.2 dX12_byteOf_64
def q_X12_byteOf_6 : List Cond := .code yX12_byteOf cX12_byteOf 7 (some .int) :: (([] : List Cond))
set_option maxHeartbeats 4000000 in
set_option maxRecDepth 100000 in
theorem k_X12_byteOf_6 (l : Launch) (dC : Nat → ClassId) (dI : Nat → Nat → Nat) (v0 v1 v2 v3 v4 : Int32) (sz : Nat) : Met l yX12_byteOf q_X12_byteOf_6 ({ frames := 0, cells := 0, slots := 0, locals := 0 }) (va_Pc [.int v0, .int v1, .int v2, .int v3, .int v4, .int 6] (fun U => U.heap.size = sz ∧ va_P (dC, dI) vwCl [] U.heap ∧ va_K (dC, dI) vwCl [] U ∧ va_D (fun _ => True) [])) (va_Qi (fun (r : Int32) (_ : Unit) => r = ((v1 >>> (8 &&& 31)) &&& 255)) (fun (_ : Unit) (t : State) => va_P (dC, dI) vwCl [] t.heap ∧ va_K (dC, dI) vwCl [] t ∧ va_D (va_A [] sz) []) (va_A [] sz)) 0 0 (va_A [] sz) := by
  refine Met.ofW (cc := cX12_byteOf) (maxL := 7) (ret := (some .int)) (by decide) rfl ?_
  intro p e s m args below meth c s₁ B hml hv
  obtain ⟨rfl, hsz, hP, hK, hD0⟩ := hv
  have hx := B.exec
  have hb := B.bytes
  have hr := B.returns
  have hts := atoms_spec (ws := q_X12_byteOf_6) B.pre
  have hown : s.vm.findClass RX12 = some m.cls := findClass_of_methodNamed B.named
  have hlocks := B.notSynchronized
  subst hsz
  have hD := hD0.self (sz := s.heap.size)
  generalize hAe : va_A [] s.heap.size = A at hD ⊢
  have hA : ∀ q : Nat, s.heap.size ≤ q → A q := fun q h => by rw [← hAe]; exact Or.inr h
  have hS : va_S A s.heap s.heap [] := va_S.rf
  have hl := lv_entry ([.int v0, .int v1, .int v2, .int v3, .int v4, .int 6]) (n := 7) (Nat.le_of_ble_eq_true rfl)
  rw [lg_entry_eq]
  generalize (lg_sl ([.int v0, .int v1, .int v2, .int v3, .int v4, .int 6]) ++ List.replicate (7 - (lg_sl ([.int v0, .int v1, .int v2, .int v3, .int v4, .int 6])).length) Slot.unset).toArray = ls at hl ⊢
  have hl : lv_has ls 7 [(0, .int v0), (1, .int v1), (2, .int v2), (3, .int v3), (4, .int v4), (5, .int 6)] := hl
  refine lv_iload hx hb dX12_byteOf_0 (lv_at hl 5 rfl) ?_
  refine lv_iconst (v := 4) hx hb dX12_byteOf_2 (by decide) ?_
  refine lv_icmp_ge (tgt := 10) hx hb dX12_byteOf_3 (by decide) (fun _ => ?_) (fun c => absurd (by decide) c)
  refine lv_iload hx hb dX12_byteOf_10 (lv_at hl 5 rfl) ?_
  refine lv_bipush (v := 8) hx hb dX12_byteOf_12 (by decide) ?_
  refine lv_icmp_ge (tgt := 21) hx hb dX12_byteOf_14 (by decide) (fun c => absurd c (by decide)) (fun _ => ?_)
  refine lv_iload_n hx hb dX12_byteOf_17 rfl (lv_at hl 1 rfl) ?_
  refine lv_goto (tgt := 45) hx hb dX12_byteOf_18 (by decide) ?_
  refine lv_istore (lv' := [(6, .int v1), (0, .int v0), (1, .int v1), (2, .int v2), (3, .int v3), (4, .int v4), (5, .int 6)]) hx hb dX12_byteOf_45 hl (by decide) rfl (fun ls hl => ?_)
  refine lv_iload hx hb dX12_byteOf_47 (lv_at hl 0 rfl) ?_
  refine lv_bipush (v := 24) hx hb dX12_byteOf_49 (by decide) ?_
  refine lv_bipush (v := 8) hx hb dX12_byteOf_51 (by decide) ?_
  refine lv_iload hx hb dX12_byteOf_53 (lv_at hl 6 rfl) ?_
  refine lv_iconst (v := 4) hx hb dX12_byteOf_55 (by decide) ?_
  refine lv_irem hx hb dX12_byteOf_56 (by decide) ?_
  refine lv_topi (fun tv1 etv1 => ?_)
  obtain rfl : tv1 = (2 : Int32) := etv1.trans (by first | rfl | decide)
  refine lv_imul hx hb dX12_byteOf_57 ?_
  refine lv_topi (fun tv2 etv2 => ?_)
  obtain rfl : tv2 = (16 : Int32) := etv2.trans (by first | rfl | decide)
  refine lv_isub hx hb dX12_byteOf_58 ?_
  refine lv_topi (fun tv3 etv3 => ?_)
  obtain rfl : tv3 = (8 : Int32) := etv3.trans (by first | rfl | decide)
  refine lv_ishr hx hb dX12_byteOf_59 ?_
  refine lv_sipush (v := 255) hx hb dX12_byteOf_60 (by decide) ?_
  refine lv_iand hx hb dX12_byteOf_63 ?_
  have hP9 := hP.sub (ws' := []) [] rfl
  have hD9 := hD.sub (ws' := []) [] (by decide) rfl
  have hK9 := hK.sub (tys' := []) [] rfl
  exact W.iret (v := ((v1 >>> (8 &&& 31)) &&& 255)) hx hb hr (fun t ht hW => ⟨⟨((v1 >>> (8 &&& 31)) &&& 255), (), rfl, rfl, by rw [ht]; exact hP9, va_K.moved hW.alike hK9, hD9⟩, hS.F ht⟩) hS.2.2 dX12_byteOf_64
def q_X12_byteOf_7 : List Cond := .code yX12_byteOf cX12_byteOf 7 (some .int) :: (([] : List Cond))
set_option maxHeartbeats 4000000 in
set_option maxRecDepth 100000 in
theorem k_X12_byteOf_7 (l : Launch) (dC : Nat → ClassId) (dI : Nat → Nat → Nat) (v0 v1 v2 v3 v4 : Int32) (sz : Nat) : Met l yX12_byteOf q_X12_byteOf_7 ({ frames := 0, cells := 0, slots := 0, locals := 0 }) (va_Pc [.int v0, .int v1, .int v2, .int v3, .int v4, .int 7] (fun U => U.heap.size = sz ∧ va_P (dC, dI) vwCl [] U.heap ∧ va_K (dC, dI) vwCl [] U ∧ va_D (fun _ => True) [])) (va_Qi (fun (r : Int32) (_ : Unit) => r = ((v1 >>> (0 &&& 31)) &&& 255)) (fun (_ : Unit) (t : State) => va_P (dC, dI) vwCl [] t.heap ∧ va_K (dC, dI) vwCl [] t ∧ va_D (va_A [] sz) []) (va_A [] sz)) 0 0 (va_A [] sz) := by
  refine Met.ofW (cc := cX12_byteOf) (maxL := 7) (ret := (some .int)) (by decide) rfl ?_
  intro p e s m args below meth c s₁ B hml hv
  obtain ⟨rfl, hsz, hP, hK, hD0⟩ := hv
  have hx := B.exec
  have hb := B.bytes
  have hr := B.returns
  have hts := atoms_spec (ws := q_X12_byteOf_7) B.pre
  have hown : s.vm.findClass RX12 = some m.cls := findClass_of_methodNamed B.named
  have hlocks := B.notSynchronized
  subst hsz
  have hD := hD0.self (sz := s.heap.size)
  generalize hAe : va_A [] s.heap.size = A at hD ⊢
  have hA : ∀ q : Nat, s.heap.size ≤ q → A q := fun q h => by rw [← hAe]; exact Or.inr h
  have hS : va_S A s.heap s.heap [] := va_S.rf
  have hl := lv_entry ([.int v0, .int v1, .int v2, .int v3, .int v4, .int 7]) (n := 7) (Nat.le_of_ble_eq_true rfl)
  rw [lg_entry_eq]
  generalize (lg_sl ([.int v0, .int v1, .int v2, .int v3, .int v4, .int 7]) ++ List.replicate (7 - (lg_sl ([.int v0, .int v1, .int v2, .int v3, .int v4, .int 7])).length) Slot.unset).toArray = ls at hl ⊢
  have hl : lv_has ls 7 [(0, .int v0), (1, .int v1), (2, .int v2), (3, .int v3), (4, .int v4), (5, .int 7)] := hl
  refine lv_iload hx hb dX12_byteOf_0 (lv_at hl 5 rfl) ?_
  refine lv_iconst (v := 4) hx hb dX12_byteOf_2 (by decide) ?_
  refine lv_icmp_ge (tgt := 10) hx hb dX12_byteOf_3 (by decide) (fun _ => ?_) (fun c => absurd (by decide) c)
  refine lv_iload hx hb dX12_byteOf_10 (lv_at hl 5 rfl) ?_
  refine lv_bipush (v := 8) hx hb dX12_byteOf_12 (by decide) ?_
  refine lv_icmp_ge (tgt := 21) hx hb dX12_byteOf_14 (by decide) (fun c => absurd c (by decide)) (fun _ => ?_)
  refine lv_iload_n hx hb dX12_byteOf_17 rfl (lv_at hl 1 rfl) ?_
  refine lv_goto (tgt := 45) hx hb dX12_byteOf_18 (by decide) ?_
  refine lv_istore (lv' := [(6, .int v1), (0, .int v0), (1, .int v1), (2, .int v2), (3, .int v3), (4, .int v4), (5, .int 7)]) hx hb dX12_byteOf_45 hl (by decide) rfl (fun ls hl => ?_)
  refine lv_iload hx hb dX12_byteOf_47 (lv_at hl 0 rfl) ?_
  refine lv_bipush (v := 24) hx hb dX12_byteOf_49 (by decide) ?_
  refine lv_bipush (v := 8) hx hb dX12_byteOf_51 (by decide) ?_
  refine lv_iload hx hb dX12_byteOf_53 (lv_at hl 6 rfl) ?_
  refine lv_iconst (v := 4) hx hb dX12_byteOf_55 (by decide) ?_
  refine lv_irem hx hb dX12_byteOf_56 (by decide) ?_
  refine lv_topi (fun tv1 etv1 => ?_)
  obtain rfl : tv1 = (3 : Int32) := etv1.trans (by first | rfl | decide)
  refine lv_imul hx hb dX12_byteOf_57 ?_
  refine lv_topi (fun tv2 etv2 => ?_)
  obtain rfl : tv2 = (24 : Int32) := etv2.trans (by first | rfl | decide)
  refine lv_isub hx hb dX12_byteOf_58 ?_
  refine lv_topi (fun tv3 etv3 => ?_)
  obtain rfl : tv3 = (0 : Int32) := etv3.trans (by first | rfl | decide)
  refine lv_ishr hx hb dX12_byteOf_59 ?_
  refine lv_sipush (v := 255) hx hb dX12_byteOf_60 (by decide) ?_
  refine lv_iand hx hb dX12_byteOf_63 ?_
  have hP9 := hP.sub (ws' := []) [] rfl
  have hD9 := hD.sub (ws' := []) [] (by decide) rfl
  have hK9 := hK.sub (tys' := []) [] rfl
  exact W.iret (v := ((v1 >>> (0 &&& 31)) &&& 255)) hx hb hr (fun t ht hW => ⟨⟨((v1 >>> (0 &&& 31)) &&& 255), (), rfl, rfl, by rw [ht]; exact hP9, va_K.moved hW.alike hK9, hD9⟩, hS.F ht⟩) hS.2.2 dX12_byteOf_64
def q_X12_byteOf_8 : List Cond := .code yX12_byteOf cX12_byteOf 7 (some .int) :: (([] : List Cond))
set_option maxHeartbeats 4000000 in
set_option maxRecDepth 100000 in
theorem k_X12_byteOf_8 (l : Launch) (dC : Nat → ClassId) (dI : Nat → Nat → Nat) (v0 v1 v2 v3 v4 : Int32) (sz : Nat) : Met l yX12_byteOf q_X12_byteOf_8 ({ frames := 0, cells := 0, slots := 0, locals := 0 }) (va_Pc [.int v0, .int v1, .int v2, .int v3, .int v4, .int 8] (fun U => U.heap.size = sz ∧ va_P (dC, dI) vwCl [] U.heap ∧ va_K (dC, dI) vwCl [] U ∧ va_D (fun _ => True) [])) (va_Qi (fun (r : Int32) (_ : Unit) => r = ((v2 >>> (24 &&& 31)) &&& 255)) (fun (_ : Unit) (t : State) => va_P (dC, dI) vwCl [] t.heap ∧ va_K (dC, dI) vwCl [] t ∧ va_D (va_A [] sz) []) (va_A [] sz)) 0 0 (va_A [] sz) := by
  refine Met.ofW (cc := cX12_byteOf) (maxL := 7) (ret := (some .int)) (by decide) rfl ?_
  intro p e s m args below meth c s₁ B hml hv
  obtain ⟨rfl, hsz, hP, hK, hD0⟩ := hv
  have hx := B.exec
  have hb := B.bytes
  have hr := B.returns
  have hts := atoms_spec (ws := q_X12_byteOf_8) B.pre
  have hown : s.vm.findClass RX12 = some m.cls := findClass_of_methodNamed B.named
  have hlocks := B.notSynchronized
  subst hsz
  have hD := hD0.self (sz := s.heap.size)
  generalize hAe : va_A [] s.heap.size = A at hD ⊢
  have hA : ∀ q : Nat, s.heap.size ≤ q → A q := fun q h => by rw [← hAe]; exact Or.inr h
  have hS : va_S A s.heap s.heap [] := va_S.rf
  have hl := lv_entry ([.int v0, .int v1, .int v2, .int v3, .int v4, .int 8]) (n := 7) (Nat.le_of_ble_eq_true rfl)
  rw [lg_entry_eq]
  generalize (lg_sl ([.int v0, .int v1, .int v2, .int v3, .int v4, .int 8]) ++ List.replicate (7 - (lg_sl ([.int v0, .int v1, .int v2, .int v3, .int v4, .int 8])).length) Slot.unset).toArray = ls at hl ⊢
  have hl : lv_has ls 7 [(0, .int v0), (1, .int v1), (2, .int v2), (3, .int v3), (4, .int v4), (5, .int 8)] := hl
  refine lv_iload hx hb dX12_byteOf_0 (lv_at hl 5 rfl) ?_
  refine lv_iconst (v := 4) hx hb dX12_byteOf_2 (by decide) ?_
  refine lv_icmp_ge (tgt := 10) hx hb dX12_byteOf_3 (by decide) (fun _ => ?_) (fun c => absurd (by decide) c)
  refine lv_iload hx hb dX12_byteOf_10 (lv_at hl 5 rfl) ?_
  refine lv_bipush (v := 8) hx hb dX12_byteOf_12 (by decide) ?_
  refine lv_icmp_ge (tgt := 21) hx hb dX12_byteOf_14 (by decide) (fun _ => ?_) (fun c => absurd (by decide) c)
  refine lv_iload hx hb dX12_byteOf_21 (lv_at hl 5 rfl) ?_
  refine lv_bipush (v := 12) hx hb dX12_byteOf_23 (by decide) ?_
  refine lv_icmp_ge (tgt := 32) hx hb dX12_byteOf_25 (by decide) (fun c => absurd c (by decide)) (fun _ => ?_)
  refine lv_iload_n hx hb dX12_byteOf_28 rfl (lv_at hl 2 rfl) ?_
  refine lv_goto (tgt := 45) hx hb dX12_byteOf_29 (by decide) ?_
  refine lv_istore (lv' := [(6, .int v2), (0, .int v0), (1, .int v1), (2, .int v2), (3, .int v3), (4, .int v4), (5, .int 8)]) hx hb dX12_byteOf_45 hl (by decide) rfl (fun ls hl => ?_)
  refine lv_iload hx hb dX12_byteOf_47 (lv_at hl 0 rfl) ?_
  refine lv_bipush (v := 24) hx hb dX12_byteOf_49 (by decide) ?_
  refine lv_bipush (v := 8) hx hb dX12_byteOf_51 (by decide) ?_
  refine lv_iload hx hb dX12_byteOf_53 (lv_at hl 6 rfl) ?_
  refine lv_iconst (v := 4) hx hb dX12_byteOf_55 (by decide) ?_
  refine lv_irem hx hb dX12_byteOf_56 (by decide) ?_
  refine lv_topi (fun tv1 etv1 => ?_)
  obtain rfl : tv1 = (0 : Int32) := etv1.trans (by first | rfl | decide)
  refine lv_imul hx hb dX12_byteOf_57 ?_
  refine lv_topi (fun tv2 etv2 => ?_)
  obtain rfl : tv2 = (0 : Int32) := etv2.trans (by first | rfl | decide)
  refine lv_isub hx hb dX12_byteOf_58 ?_
  refine lv_topi (fun tv3 etv3 => ?_)
  obtain rfl : tv3 = (24 : Int32) := etv3.trans (by first | rfl | decide)
  refine lv_ishr hx hb dX12_byteOf_59 ?_
  refine lv_sipush (v := 255) hx hb dX12_byteOf_60 (by decide) ?_
  refine lv_iand hx hb dX12_byteOf_63 ?_
  have hP9 := hP.sub (ws' := []) [] rfl
  have hD9 := hD.sub (ws' := []) [] (by decide) rfl
  have hK9 := hK.sub (tys' := []) [] rfl
  exact W.iret (v := ((v2 >>> (24 &&& 31)) &&& 255)) hx hb hr (fun t ht hW => ⟨⟨((v2 >>> (24 &&& 31)) &&& 255), (), rfl, rfl, by rw [ht]; exact hP9, va_K.moved hW.alike hK9, hD9⟩, hS.F ht⟩) hS.2.2 dX12_byteOf_64
def q_X12_byteOf_9 : List Cond := .code yX12_byteOf cX12_byteOf 7 (some .int) :: (([] : List Cond))
set_option maxHeartbeats 4000000 in
set_option maxRecDepth 100000 in
theorem k_X12_byteOf_9 (l : Launch) (dC : Nat → ClassId) (dI : Nat → Nat → Nat) (v0 v1 v2 v3 v4 : Int32) (sz : Nat) : Met l yX12_byteOf q_X12_byteOf_9 ({ frames := 0, cells := 0, slots := 0, locals := 0 }) (va_Pc [.int v0, .int v1, .int v2, .int v3, .int v4, .int 9] (fun U => U.heap.size = sz ∧ va_P (dC, dI) vwCl [] U.heap ∧ va_K (dC, dI) vwCl [] U ∧ va_D (fun _ => True) [])) (va_Qi (fun (r : Int32) (_ : Unit) => r = ((v2 >>> (16 &&& 31)) &&& 255)) (fun (_ : Unit) (t : State) => va_P (dC, dI) vwCl [] t.heap ∧ va_K (dC, dI) vwCl [] t ∧ va_D (va_A [] sz) []) (va_A [] sz)) 0 0 (va_A [] sz) := by
  refine Met.ofW (cc := cX12_byteOf) (maxL := 7) (ret := (some .int)) (by decide) rfl ?_
  intro p e s m args below meth c s₁ B hml hv
  obtain ⟨rfl, hsz, hP, hK, hD0⟩ := hv
  have hx := B.exec
  have hb := B.bytes
  have hr := B.returns
  have hts := atoms_spec (ws := q_X12_byteOf_9) B.pre
  have hown : s.vm.findClass RX12 = some m.cls := findClass_of_methodNamed B.named
  have hlocks := B.notSynchronized
  subst hsz
  have hD := hD0.self (sz := s.heap.size)
  generalize hAe : va_A [] s.heap.size = A at hD ⊢
  have hA : ∀ q : Nat, s.heap.size ≤ q → A q := fun q h => by rw [← hAe]; exact Or.inr h
  have hS : va_S A s.heap s.heap [] := va_S.rf
  have hl := lv_entry ([.int v0, .int v1, .int v2, .int v3, .int v4, .int 9]) (n := 7) (Nat.le_of_ble_eq_true rfl)
  rw [lg_entry_eq]
  generalize (lg_sl ([.int v0, .int v1, .int v2, .int v3, .int v4, .int 9]) ++ List.replicate (7 - (lg_sl ([.int v0, .int v1, .int v2, .int v3, .int v4, .int 9])).length) Slot.unset).toArray = ls at hl ⊢
  have hl : lv_has ls 7 [(0, .int v0), (1, .int v1), (2, .int v2), (3, .int v3), (4, .int v4), (5, .int 9)] := hl
  refine lv_iload hx hb dX12_byteOf_0 (lv_at hl 5 rfl) ?_
  refine lv_iconst (v := 4) hx hb dX12_byteOf_2 (by decide) ?_
  refine lv_icmp_ge (tgt := 10) hx hb dX12_byteOf_3 (by decide) (fun _ => ?_) (fun c => absurd (by decide) c)
  refine lv_iload hx hb dX12_byteOf_10 (lv_at hl 5 rfl) ?_
  refine lv_bipush (v := 8) hx hb dX12_byteOf_12 (by decide) ?_
  refine lv_icmp_ge (tgt := 21) hx hb dX12_byteOf_14 (by decide) (fun _ => ?_) (fun c => absurd (by decide) c)
  refine lv_iload hx hb dX12_byteOf_21 (lv_at hl 5 rfl) ?_
  refine lv_bipush (v := 12) hx hb dX12_byteOf_23 (by decide) ?_
  refine lv_icmp_ge (tgt := 32) hx hb dX12_byteOf_25 (by decide) (fun c => absurd c (by decide)) (fun _ => ?_)
  refine lv_iload_n hx hb dX12_byteOf_28 rfl (lv_at hl 2 rfl) ?_
  refine lv_goto (tgt := 45) hx hb dX12_byteOf_29 (by decide) ?_
  refine lv_istore (lv' := [(6, .int v2), (0, .int v0), (1, .int v1), (2, .int v2), (3, .int v3), (4, .int v4), (5, .int 9)]) hx hb dX12_byteOf_45 hl (by decide) rfl (fun ls hl => ?_)
  refine lv_iload hx hb dX12_byteOf_47 (lv_at hl 0 rfl) ?_
  refine lv_bipush (v := 24) hx hb dX12_byteOf_49 (by decide) ?_
  refine lv_bipush (v := 8) hx hb dX12_byteOf_51 (by decide) ?_
  refine lv_iload hx hb dX12_byteOf_53 (lv_at hl 6 rfl) ?_
  refine lv_iconst (v := 4) hx hb dX12_byteOf_55 (by decide) ?_
  refine lv_irem hx hb dX12_byteOf_56 (by decide) ?_
  refine lv_topi (fun tv1 etv1 => ?_)
  obtain rfl : tv1 = (1 : Int32) := etv1.trans (by first | rfl | decide)
  refine lv_imul hx hb dX12_byteOf_57 ?_
  refine lv_topi (fun tv2 etv2 => ?_)
  obtain rfl : tv2 = (8 : Int32) := etv2.trans (by first | rfl | decide)
  refine lv_isub hx hb dX12_byteOf_58 ?_
  refine lv_topi (fun tv3 etv3 => ?_)
  obtain rfl : tv3 = (16 : Int32) := etv3.trans (by first | rfl | decide)
  refine lv_ishr hx hb dX12_byteOf_59 ?_
  refine lv_sipush (v := 255) hx hb dX12_byteOf_60 (by decide) ?_
  refine lv_iand hx hb dX12_byteOf_63 ?_
  have hP9 := hP.sub (ws' := []) [] rfl
  have hD9 := hD.sub (ws' := []) [] (by decide) rfl
  have hK9 := hK.sub (tys' := []) [] rfl
  exact W.iret (v := ((v2 >>> (16 &&& 31)) &&& 255)) hx hb hr (fun t ht hW => ⟨⟨((v2 >>> (16 &&& 31)) &&& 255), (), rfl, rfl, by rw [ht]; exact hP9, va_K.moved hW.alike hK9, hD9⟩, hS.F ht⟩) hS.2.2 dX12_byteOf_64
def q_X12_byteOf_10 : List Cond := .code yX12_byteOf cX12_byteOf 7 (some .int) :: (([] : List Cond))
set_option maxHeartbeats 4000000 in
set_option maxRecDepth 100000 in
theorem k_X12_byteOf_10 (l : Launch) (dC : Nat → ClassId) (dI : Nat → Nat → Nat) (v0 v1 v2 v3 v4 : Int32) (sz : Nat) : Met l yX12_byteOf q_X12_byteOf_10 ({ frames := 0, cells := 0, slots := 0, locals := 0 }) (va_Pc [.int v0, .int v1, .int v2, .int v3, .int v4, .int 10] (fun U => U.heap.size = sz ∧ va_P (dC, dI) vwCl [] U.heap ∧ va_K (dC, dI) vwCl [] U ∧ va_D (fun _ => True) [])) (va_Qi (fun (r : Int32) (_ : Unit) => r = ((v2 >>> (8 &&& 31)) &&& 255)) (fun (_ : Unit) (t : State) => va_P (dC, dI) vwCl [] t.heap ∧ va_K (dC, dI) vwCl [] t ∧ va_D (va_A [] sz) []) (va_A [] sz)) 0 0 (va_A [] sz) := by
  refine Met.ofW (cc := cX12_byteOf) (maxL := 7) (ret := (some .int)) (by decide) rfl ?_
  intro p e s m args below meth c s₁ B hml hv
  obtain ⟨rfl, hsz, hP, hK, hD0⟩ := hv
  have hx := B.exec
  have hb := B.bytes
  have hr := B.returns
  have hts := atoms_spec (ws := q_X12_byteOf_10) B.pre
  have hown : s.vm.findClass RX12 = some m.cls := findClass_of_methodNamed B.named
  have hlocks := B.notSynchronized
  subst hsz
  have hD := hD0.self (sz := s.heap.size)
  generalize hAe : va_A [] s.heap.size = A at hD ⊢
  have hA : ∀ q : Nat, s.heap.size ≤ q → A q := fun q h => by rw [← hAe]; exact Or.inr h
  have hS : va_S A s.heap s.heap [] := va_S.rf
  have hl := lv_entry ([.int v0, .int v1, .int v2, .int v3, .int v4, .int 10]) (n := 7) (Nat.le_of_ble_eq_true rfl)
  rw [lg_entry_eq]
  generalize (lg_sl ([.int v0, .int v1, .int v2, .int v3, .int v4, .int 10]) ++ List.replicate (7 - (lg_sl ([.int v0, .int v1, .int v2, .int v3, .int v4, .int 10])).length) Slot.unset).toArray = ls at hl ⊢
  have hl : lv_has ls 7 [(0, .int v0), (1, .int v1), (2, .int v2), (3, .int v3), (4, .int v4), (5, .int 10)] := hl
  refine lv_iload hx hb dX12_byteOf_0 (lv_at hl 5 rfl) ?_
  refine lv_iconst (v := 4) hx hb dX12_byteOf_2 (by decide) ?_
  refine lv_icmp_ge (tgt := 10) hx hb dX12_byteOf_3 (by decide) (fun _ => ?_) (fun c => absurd (by decide) c)
  refine lv_iload hx hb dX12_byteOf_10 (lv_at hl 5 rfl) ?_
  refine lv_bipush (v := 8) hx hb dX12_byteOf_12 (by decide) ?_
  refine lv_icmp_ge (tgt := 21) hx hb dX12_byteOf_14 (by decide) (fun _ => ?_) (fun c => absurd (by decide) c)
  refine lv_iload hx hb dX12_byteOf_21 (lv_at hl 5 rfl) ?_
  refine lv_bipush (v := 12) hx hb dX12_byteOf_23 (by decide) ?_
  refine lv_icmp_ge (tgt := 32) hx hb dX12_byteOf_25 (by decide) (fun c => absurd c (by decide)) (fun _ => ?_)
  refine lv_iload_n hx hb dX12_byteOf_28 rfl (lv_at hl 2 rfl) ?_
  refine lv_goto (tgt := 45) hx hb dX12_byteOf_29 (by decide) ?_
  refine lv_istore (lv' := [(6, .int v2), (0, .int v0), (1, .int v1), (2, .int v2), (3, .int v3), (4, .int v4), (5, .int 10)]) hx hb dX12_byteOf_45 hl (by decide) rfl (fun ls hl => ?_)
  refine lv_iload hx hb dX12_byteOf_47 (lv_at hl 0 rfl) ?_
  refine lv_bipush (v := 24) hx hb dX12_byteOf_49 (by decide) ?_
  refine lv_bipush (v := 8) hx hb dX12_byteOf_51 (by decide) ?_
  refine lv_iload hx hb dX12_byteOf_53 (lv_at hl 6 rfl) ?_
  refine lv_iconst (v := 4) hx hb dX12_byteOf_55 (by decide) ?_
  refine lv_irem hx hb dX12_byteOf_56 (by decide) ?_
  refine lv_topi (fun tv1 etv1 => ?_)
  obtain rfl : tv1 = (2 : Int32) := etv1.trans (by first | rfl | decide)
  refine lv_imul hx hb dX12_byteOf_57 ?_
  refine lv_topi (fun tv2 etv2 => ?_)
  obtain rfl : tv2 = (16 : Int32) := etv2.trans (by first | rfl | decide)
  refine lv_isub hx hb dX12_byteOf_58 ?_
  refine lv_topi (fun tv3 etv3 => ?_)
  obtain rfl : tv3 = (8 : Int32) := etv3.trans (by first | rfl | decide)
  refine lv_ishr hx hb dX12_byteOf_59 ?_
  refine lv_sipush (v := 255) hx hb dX12_byteOf_60 (by decide) ?_
  refine lv_iand hx hb dX12_byteOf_63 ?_
  have hP9 := hP.sub (ws' := []) [] rfl
  have hD9 := hD.sub (ws' := []) [] (by decide) rfl
  have hK9 := hK.sub (tys' := []) [] rfl
  exact W.iret (v := ((v2 >>> (8 &&& 31)) &&& 255)) hx hb hr (fun t ht hW => ⟨⟨((v2 >>> (8 &&& 31)) &&& 255), (), rfl, rfl, by rw [ht]; exact hP9, va_K.moved hW.alike hK9, hD9⟩, hS.F ht⟩) hS.2.2 dX12_byteOf_64
def q_X12_byteOf_11 : List Cond := .code yX12_byteOf cX12_byteOf 7 (some .int) :: (([] : List Cond))
set_option maxHeartbeats 4000000 in
set_option maxRecDepth 100000 in
theorem k_X12_byteOf_11 (l : Launch) (dC : Nat → ClassId) (dI : Nat → Nat → Nat) (v0 v1 v2 v3 v4 : Int32) (sz : Nat) : Met l yX12_byteOf q_X12_byteOf_11 ({ frames := 0, cells := 0, slots := 0, locals := 0 }) (va_Pc [.int v0, .int v1, .int v2, .int v3, .int v4, .int 11] (fun U => U.heap.size = sz ∧ va_P (dC, dI) vwCl [] U.heap ∧ va_K (dC, dI) vwCl [] U ∧ va_D (fun _ => True) [])) (va_Qi (fun (r : Int32) (_ : Unit) => r = ((v2 >>> (0 &&& 31)) &&& 255)) (fun (_ : Unit) (t : State) => va_P (dC, dI) vwCl [] t.heap ∧ va_K (dC, dI) vwCl [] t ∧ va_D (va_A [] sz) []) (va_A [] sz)) 0 0 (va_A [] sz) := by
  refine Met.ofW (cc := cX12_byteOf) (maxL := 7) (ret := (some .int)) (by decide) rfl ?_
  intro p e s m args below meth c s₁ B hml hv
  obtain ⟨rfl, hsz, hP, hK, hD0⟩ := hv
  have hx := B.exec
  have hb := B.bytes
  have hr := B.returns
  have hts := atoms_spec (ws := q_X12_byteOf_11) B.pre
  have hown : s.vm.findClass RX12 = some m.cls := findClass_of_methodNamed B.named
  have hlocks := B.notSynchronized
  subst hsz
  have hD := hD0.self (sz := s.heap.size)
  generalize hAe : va_A [] s.heap.size = A at hD ⊢
  have hA : ∀ q : Nat, s.heap.size ≤ q → A q := fun q h => by rw [← hAe]; exact Or.inr h
  have hS : va_S A s.heap s.heap [] := va_S.rf
  have hl := lv_entry ([.int v0, .int v1, .int v2, .int v3, .int v4, .int 11]) (n := 7) (Nat.le_of_ble_eq_true rfl)
  rw [lg_entry_eq]
  generalize (lg_sl ([.int v0, .int v1, .int v2, .int v3, .int v4, .int 11]) ++ List.replicate (7 - (lg_sl ([.int v0, .int v1, .int v2, .int v3, .int v4, .int 11])).length) Slot.unset).toArray = ls at hl ⊢
  have hl : lv_has ls 7 [(0, .int v0), (1, .int v1), (2, .int v2), (3, .int v3), (4, .int v4), (5, .int 11)] := hl
  refine lv_iload hx hb dX12_byteOf_0 (lv_at hl 5 rfl) ?_
  refine lv_iconst (v := 4) hx hb dX12_byteOf_2 (by decide) ?_
  refine lv_icmp_ge (tgt := 10) hx hb dX12_byteOf_3 (by decide) (fun _ => ?_) (fun c => absurd (by decide) c)
  refine lv_iload hx hb dX12_byteOf_10 (lv_at hl 5 rfl) ?_
  refine lv_bipush (v := 8) hx hb dX12_byteOf_12 (by decide) ?_
  refine lv_icmp_ge (tgt := 21) hx hb dX12_byteOf_14 (by decide) (fun _ => ?_) (fun c => absurd (by decide) c)
  refine lv_iload hx hb dX12_byteOf_21 (lv_at hl 5 rfl) ?_
  refine lv_bipush (v := 12) hx hb dX12_byteOf_23 (by decide) ?_
  refine lv_icmp_ge (tgt := 32) hx hb dX12_byteOf_25 (by decide) (fun c => absurd c (by decide)) (fun _ => ?_)
  refine lv_iload_n hx hb dX12_byteOf_28 rfl (lv_at hl 2 rfl) ?_
  refine lv_goto (tgt := 45) hx hb dX12_byteOf_29 (by decide) ?_
  refine lv_istore (lv' := [(6, .int v2), (0, .int v0), (1, .int v1), (2, .int v2), (3, .int v3), (4, .int v4), (5, .int 11)]) hx hb dX12_byteOf_45 hl (by decide) rfl (fun ls hl => ?_)
  refine lv_iload hx hb dX12_byteOf_47 (lv_at hl 0 rfl) ?_
  refine lv_bipush (v := 24) hx hb dX12_byteOf_49 (by decide) ?_
  refine lv_bipush (v := 8) hx hb dX12_byteOf_51 (by decide) ?_
  refine lv_iload hx hb dX12_byteOf_53 (lv_at hl 6 rfl) ?_
  refine lv_iconst (v := 4) hx hb dX12_byteOf_55 (by decide) ?_
  refine lv_irem hx hb dX12_byteOf_56 (by decide) ?_
  refine lv_topi (fun tv1 etv1 => ?_)
  obtain rfl : tv1 = (3 : Int32) := etv1.trans (by first | rfl | decide)
  refine lv_imul hx hb dX12_byteOf_57 ?_
  refine lv_topi (fun tv2 etv2 => ?_)
  obtain rfl : tv2 = (24 : Int32) := etv2.trans (by first | rfl | decide)
  refine lv_isub hx hb dX12_byteOf_58 ?_
  refine lv_topi (fun tv3 etv3 => ?_)
  obtain rfl : tv3 = (0 : Int32) := etv3.trans (by first | rfl | decide)
  refine lv_ishr hx hb dX12_byteOf_59 ?_
  refine lv_sipush (v := 255) hx hb dX12_byteOf_60 (by decide) ?_
  refine lv_iand hx hb dX12_byteOf_63 ?_
  have hP9 := hP.sub (ws' := []) [] rfl
  have hD9 := hD.sub (ws' := []) [] (by decide) rfl
  have hK9 := hK.sub (tys' := []) [] rfl
  exact W.iret (v := ((v2 >>> (0 &&& 31)) &&& 255)) hx hb hr (fun t ht hW => ⟨⟨((v2 >>> (0 &&& 31)) &&& 255), (), rfl, rfl, by rw [ht]; exact hP9, va_K.moved hW.alike hK9, hD9⟩, hS.F ht⟩) hS.2.2 dX12_byteOf_64
def q_X12_byteOf_12 : List Cond := .code yX12_byteOf cX12_byteOf 7 (some .int) :: (([] : List Cond))
set_option maxHeartbeats 4000000 in
set_option maxRecDepth 100000 in
theorem k_X12_byteOf_12 (l : Launch) (dC : Nat → ClassId) (dI : Nat → Nat → Nat) (v0 v1 v2 v3 v4 : Int32) (sz : Nat) : Met l yX12_byteOf q_X12_byteOf_12 ({ frames := 0, cells := 0, slots := 0, locals := 0 }) (va_Pc [.int v0, .int v1, .int v2, .int v3, .int v4, .int 12] (fun U => U.heap.size = sz ∧ va_P (dC, dI) vwCl [] U.heap ∧ va_K (dC, dI) vwCl [] U ∧ va_D (fun _ => True) [])) (va_Qi (fun (r : Int32) (_ : Unit) => r = ((v3 >>> (24 &&& 31)) &&& 255)) (fun (_ : Unit) (t : State) => va_P (dC, dI) vwCl [] t.heap ∧ va_K (dC, dI) vwCl [] t ∧ va_D (va_A [] sz) []) (va_A [] sz)) 0 0 (va_A [] sz) := by
  refine Met.ofW (cc := cX12_byteOf) (maxL := 7) (ret := (some .int)) (by decide) rfl ?_
  intro p e s m args below meth c s₁ B hml hv
  obtain ⟨rfl, hsz, hP, hK, hD0⟩ := hv
  have hx := B.exec
  have hb := B.bytes
  have hr := B.returns
  have hts := atoms_spec (ws := q_X12_byteOf_12) B.pre
  have hown : s.vm.findClass RX12 = some m.cls := findClass_of_methodNamed B.named
  have hlocks := B.notSynchronized
  subst hsz
  have hD := hD0.self (sz := s.heap.size)
  generalize hAe : va_A [] s.heap.size = A at hD ⊢
  have hA : ∀ q : Nat, s.heap.size ≤ q → A q := fun q h => by rw [← hAe]; exact Or.inr h
  have hS : va_S A s.heap s.heap [] := va_S.rf
  have hl := lv_entry ([.int v0, .int v1, .int v2, .int v3, .int v4, .int 12]) (n := 7) (Nat.le_of_ble_eq_true rfl)
  rw [lg_entry_eq]
  generalize (lg_sl ([.int v0, .int v1, .int v2, .int v3, .int v4, .int 12]) ++ List.replicate (7 - (lg_sl ([.int v0, .int v1, .int v2, .int v3, .int v4, .int 12])).length) Slot.unset).toArray = ls at hl ⊢
  have hl : lv_has ls 7 [(0, .int v0), (1, .int v1), (2, .int v2), (3, .int v3), (4, .int v4), (5, .int 12)] := hl
  refine lv_iload hx hb dX12_byteOf_0 (lv_at hl 5 rfl) ?_
  refine lv_iconst (v := 4) hx hb dX12_byteOf_2 (by decide) ?_
  refine lv_icmp_ge (tgt := 10) hx hb dX12_byteOf_3 (by decide) (fun _ => ?_) (fun c => absurd (by decide) c)
  refine lv_iload hx hb dX12_byteOf_10 (lv_at hl 5 rfl) ?_
  refine lv_bipush (v := 8) hx hb dX12_byteOf_12 (by decide) ?_
  refine lv_icmp_ge (tgt := 21) hx hb dX12_byteOf_14 (by decide) (fun _ => ?_) (fun c => absurd (by decide) c)
  refine lv_iload hx hb dX12_byteOf_21 (lv_at hl 5 rfl) ?_
  refine lv_bipush (v := 12) hx hb dX12_byteOf_23 (by decide) ?_
  refine lv_icmp_ge (tgt := 32) hx hb dX12_byteOf_25 (by decide) (fun _ => ?_) (fun c => absurd (by decide) c)
  refine lv_iload hx hb dX12_byteOf_32 (lv_at hl 5 rfl) ?_
  refine lv_bipush (v := 16) hx hb dX12_byteOf_34 (by decide) ?_
  refine lv_icmp_ge (tgt := 43) hx hb dX12_byteOf_36 (by decide) (fun c => absurd c (by decide)) (fun _ => ?_)
  refine lv_iload_n hx hb dX12_byteOf_39 rfl (lv_at hl 3 rfl) ?_
  refine lv_goto (tgt := 45) hx hb dX12_byteOf_40 (by decide) ?_
  refine lv_istore (lv' := [(6, .int v3), (0, .int v0), (1, .int v1), (2, .int v2), (3, .int v3), (4, .int v4), (5, .int 12)]) hx hb dX12_byteOf_45 hl (by decide) rfl (fun ls hl => ?_)
  refine lv_iload hx hb dX12_byteOf_47 (lv_at hl 0 rfl) ?_
  refine lv_bipush (v := 24) hx hb dX12_byteOf_49 (by decide) ?_
  refine lv_bipush (v := 8) hx hb dX12_byteOf_51 (by decide) ?_
  refine lv_iload hx hb dX12_byteOf_53 (lv_at hl 6 rfl) ?_
  refine lv_iconst (v := 4) hx hb dX12_byteOf_55 (by decide) ?_
  refine lv_irem hx hb dX12_byteOf_56 (by decide) ?_
  refine lv_topi (fun tv1 etv1 => ?_)
  obtain rfl : tv1 = (0 : Int32) := etv1.trans (by first | rfl | decide)
  refine lv_imul hx hb dX12_byteOf_57 ?_
  refine lv_topi (fun tv2 etv2 => ?_)
  obtain rfl : tv2 = (0 : Int32) := etv2.trans (by first | rfl | decide)
  refine lv_isub hx hb dX12_byteOf_58 ?_
  refine lv_topi (fun tv3 etv3 => ?_)
  obtain rfl : tv3 = (24 : Int32) := etv3.trans (by first | rfl | decide)
  refine lv_ishr hx hb dX12_byteOf_59 ?_
  refine lv_sipush (v := 255) hx hb dX12_byteOf_60 (by decide) ?_
  refine lv_iand hx hb dX12_byteOf_63 ?_
  have hP9 := hP.sub (ws' := []) [] rfl
  have hD9 := hD.sub (ws' := []) [] (by decide) rfl
  have hK9 := hK.sub (tys' := []) [] rfl
  exact W.iret (v := ((v3 >>> (24 &&& 31)) &&& 255)) hx hb hr (fun t ht hW => ⟨⟨((v3 >>> (24 &&& 31)) &&& 255), (), rfl, rfl, by rw [ht]; exact hP9, va_K.moved hW.alike hK9, hD9⟩, hS.F ht⟩) hS.2.2 dX12_byteOf_64
def q_X12_byteOf_13 : List Cond := .code yX12_byteOf cX12_byteOf 7 (some .int) :: (([] : List Cond))
set_option maxHeartbeats 4000000 in
set_option maxRecDepth 100000 in
theorem k_X12_byteOf_13 (l : Launch) (dC : Nat → ClassId) (dI : Nat → Nat → Nat) (v0 v1 v2 v3 v4 : Int32) (sz : Nat) : Met l yX12_byteOf q_X12_byteOf_13 ({ frames := 0, cells := 0, slots := 0, locals := 0 }) (va_Pc [.int v0, .int v1, .int v2, .int v3, .int v4, .int 13] (fun U => U.heap.size = sz ∧ va_P (dC, dI) vwCl [] U.heap ∧ va_K (dC, dI) vwCl [] U ∧ va_D (fun _ => True) [])) (va_Qi (fun (r : Int32) (_ : Unit) => r = ((v3 >>> (16 &&& 31)) &&& 255)) (fun (_ : Unit) (t : State) => va_P (dC, dI) vwCl [] t.heap ∧ va_K (dC, dI) vwCl [] t ∧ va_D (va_A [] sz) []) (va_A [] sz)) 0 0 (va_A [] sz) := by
  refine Met.ofW (cc := cX12_byteOf) (maxL := 7) (ret := (some .int)) (by decide) rfl ?_
  intro p e s m args below meth c s₁ B hml hv
  obtain ⟨rfl, hsz, hP, hK, hD0⟩ := hv
  have hx := B.exec
  have hb := B.bytes
  have hr := B.returns
  have hts := atoms_spec (ws := q_X12_byteOf_13) B.pre
  have hown : s.vm.findClass RX12 = some m.cls := findClass_of_methodNamed B.named
  have hlocks := B.notSynchronized
  subst hsz
  have hD := hD0.self (sz := s.heap.size)
  generalize hAe : va_A [] s.heap.size = A at hD ⊢
  have hA : ∀ q : Nat, s.heap.size ≤ q → A q := fun q h => by rw [← hAe]; exact Or.inr h
  have hS : va_S A s.heap s.heap [] := va_S.rf
  have hl := lv_entry ([.int v0, .int v1, .int v2, .int v3, .int v4, .int 13]) (n := 7) (Nat.le_of_ble_eq_true rfl)
  rw [lg_entry_eq]
  generalize (lg_sl ([.int v0, .int v1, .int v2, .int v3, .int v4, .int 13]) ++ List.replicate (7 - (lg_sl ([.int v0, .int v1, .int v2, .int v3, .int v4, .int 13])).length) Slot.unset).toArray = ls at hl ⊢
  have hl : lv_has ls 7 [(0, .int v0), (1, .int v1), (2, .int v2), (3, .int v3), (4, .int v4), (5, .int 13)] := hl
  refine lv_iload hx hb dX12_byteOf_0 (lv_at hl 5 rfl) ?_
  refine lv_iconst (v := 4) hx hb dX12_byteOf_2 (by decide) ?_
  refine lv_icmp_ge (tgt := 10) hx hb dX12_byteOf_3 (by decide) (fun _ => ?_) (fun c => absurd (by decide) c)
  refine lv_iload hx hb dX12_byteOf_10 (lv_at hl 5 rfl) ?_
  refine lv_bipush (v := 8) hx hb dX12_byteOf_12 (by decide) ?_
  refine lv_icmp_ge (tgt := 21) hx hb dX12_byteOf_14 (by decide) (fun _ => ?_) (fun c => absurd (by decide) c)
  refine lv_iload hx hb dX12_byteOf_21 (lv_at hl 5 rfl) ?_
  refine lv_bipush (v := 12) hx hb dX12_byteOf_23 (by decide) ?_
  refine lv_icmp_ge (tgt := 32) hx hb dX12_byteOf_25 (by decide) (fun _ => ?_) (fun c => absurd (by decide) c)
  refine lv_iload hx hb dX12_byteOf_32 (lv_at hl 5 rfl) ?_
  refine lv_bipush (v := 16) hx hb dX12_byteOf_34 (by decide) ?_
  refine lv_icmp_ge (tgt := 43) hx hb dX12_byteOf_36 (by decide) (fun c => absurd c (by decide)) (fun _ => ?_)
  refine lv_iload_n hx hb dX12_byteOf_39 rfl (lv_at hl 3 rfl) ?_
  refine lv_goto (tgt := 45) hx hb dX12_byteOf_40 (by decide) ?_
  refine lv_istore (lv' := [(6, .int v3), (0, .int v0), (1, .int v1), (2, .int v2), (3, .int v3), (4, .int v4), (5, .int 13)]) hx hb dX12_byteOf_45 hl (by decide) rfl (fun ls hl => ?_)
  refine lv_iload hx hb dX12_byteOf_47 (lv_at hl 0 rfl) ?_
  refine lv_bipush (v := 24) hx hb dX12_byteOf_49 (by decide) ?_
  refine lv_bipush (v := 8) hx hb dX12_byteOf_51 (by decide) ?_
  refine lv_iload hx hb dX12_byteOf_53 (lv_at hl 6 rfl) ?_
  refine lv_iconst (v := 4) hx hb dX12_byteOf_55 (by decide) ?_
  refine lv_irem hx hb dX12_byteOf_56 (by decide) ?_
  refine lv_topi (fun tv1 etv1 => ?_)
  obtain rfl : tv1 = (1 : Int32) := etv1.trans (by first | rfl | decide)
  refine lv_imul hx hb dX12_byteOf_57 ?_
  refine lv_topi (fun tv2 etv2 => ?_)
  obtain rfl : tv2 = (8 : Int32) := etv2.trans (by first | rfl | decide)
  refine lv_isub hx hb dX12_byteOf_58 ?_
  refine lv_topi (fun tv3 etv3 => ?_)
  obtain rfl : tv3 = (16 : Int32) := etv3.trans (by first | rfl | decide)
  refine lv_ishr hx hb dX12_byteOf_59 ?_
  refine lv_sipush (v := 255) hx hb dX12_byteOf_60 (by decide) ?_
  refine lv_iand hx hb dX12_byteOf_63 ?_
  have hP9 := hP.sub (ws' := []) [] rfl
  have hD9 := hD.sub (ws' := []) [] (by decide) rfl
  have hK9 := hK.sub (tys' := []) [] rfl
  exact W.iret (v := ((v3 >>> (16 &&& 31)) &&& 255)) hx hb hr (fun t ht hW => ⟨⟨((v3 >>> (16 &&& 31)) &&& 255), (), rfl, rfl, by rw [ht]; exact hP9, va_K.moved hW.alike hK9, hD9⟩, hS.F ht⟩) hS.2.2 dX12_byteOf_64
def q_X12_byteOf_14 : List Cond := .code yX12_byteOf cX12_byteOf 7 (some .int) :: (([] : List Cond))
set_option maxHeartbeats 4000000 in
set_option maxRecDepth 100000 in
theorem k_X12_byteOf_14 (l : Launch) (dC : Nat → ClassId) (dI : Nat → Nat → Nat) (v0 v1 v2 v3 v4 : Int32) (sz : Nat) : Met l yX12_byteOf q_X12_byteOf_14 ({ frames := 0, cells := 0, slots := 0, locals := 0 }) (va_Pc [.int v0, .int v1, .int v2, .int v3, .int v4, .int 14] (fun U => U.heap.size = sz ∧ va_P (dC, dI) vwCl [] U.heap ∧ va_K (dC, dI) vwCl [] U ∧ va_D (fun _ => True) [])) (va_Qi (fun (r : Int32) (_ : Unit) => r = ((v3 >>> (8 &&& 31)) &&& 255)) (fun (_ : Unit) (t : State) => va_P (dC, dI) vwCl [] t.heap ∧ va_K (dC, dI) vwCl [] t ∧ va_D (va_A [] sz) []) (va_A [] sz)) 0 0 (va_A [] sz) := by
  refine Met.ofW (cc := cX12_byteOf) (maxL := 7) (ret := (some .int)) (by decide) rfl ?_
  intro p e s m args below meth c s₁ B hml hv
  obtain ⟨rfl, hsz, hP, hK, hD0⟩ := hv
  have hx := B.exec
  have hb := B.bytes
  have hr := B.returns
  have hts := atoms_spec (ws := q_X12_byteOf_14) B.pre
  have hown : s.vm.findClass RX12 = some m.cls := findClass_of_methodNamed B.named
  have hlocks := B.notSynchronized
  subst hsz
  have hD := hD0.self (sz := s.heap.size)
  generalize hAe : va_A [] s.heap.size = A at hD ⊢
  have hA : ∀ q : Nat, s.heap.size ≤ q → A q := fun q h => by rw [← hAe]; exact Or.inr h
  have hS : va_S A s.heap s.heap [] := va_S.rf
  have hl := lv_entry ([.int v0, .int v1, .int v2, .int v3, .int v4, .int 14]) (n := 7) (Nat.le_of_ble_eq_true rfl)
  rw [lg_entry_eq]
  generalize (lg_sl ([.int v0, .int v1, .int v2, .int v3, .int v4, .int 14]) ++ List.replicate (7 - (lg_sl ([.int v0, .int v1, .int v2, .int v3, .int v4, .int 14])).length) Slot.unset).toArray = ls at hl ⊢
  have hl : lv_has ls 7 [(0, .int v0), (1, .int v1), (2, .int v2), (3, .int v3), (4, .int v4), (5, .int 14)] := hl
  refine lv_iload hx hb dX12_byteOf_0 (lv_at hl 5 rfl) ?_
  refine lv_iconst (v := 4) hx hb dX12_byteOf_2 (by decide) ?_
  refine lv_icmp_ge (tgt := 10) hx hb dX12_byteOf_3 (by decide) (fun _ => ?_) (fun c => absurd (by decide) c)
  refine lv_iload hx hb dX12_byteOf_10 (lv_at hl 5 rfl) ?_
  refine lv_bipush (v := 8) hx hb dX12_byteOf_12 (by decide) ?_
  refine lv_icmp_ge (tgt := 21) hx hb dX12_byteOf_14 (by decide) (fun _ => ?_) (fun c => absurd (by decide) c)
  refine lv_iload hx hb dX12_byteOf_21 (lv_at hl 5 rfl) ?_
  refine lv_bipush (v := 12) hx hb dX12_byteOf_23 (by decide) ?_
  refine lv_icmp_ge (tgt := 32) hx hb dX12_byteOf_25 (by decide) (fun _ => ?_) (fun c => absurd (by decide) c)
  refine lv_iload hx hb dX12_byteOf_32 (lv_at hl 5 rfl) ?_
  refine lv_bipush (v := 16) hx hb dX12_byteOf_34 (by decide) ?_
  refine lv_icmp_ge (tgt := 43) hx hb dX12_byteOf_36 (by decide) (fun c => absurd c (by decide)) (fun _ => ?_)
  refine lv_iload_n hx hb dX12_byteOf_39 rfl (lv_at hl 3 rfl) ?_
  refine lv_goto (tgt := 45) hx hb dX12_byteOf_40 (by decide) ?_
  refine lv_istore (lv' := [(6, .int v3), (0, .int v0), (1, .int v1), (2, .int v2), (3, .int v3), (4, .int v4), (5, .int 14)]) hx hb dX12_byteOf_45 hl (by decide) rfl (fun ls hl => ?_)
  refine lv_iload hx hb dX12_byteOf_47 (lv_at hl 0 rfl) ?_
  refine lv_bipush (v := 24) hx hb dX12_byteOf_49 (by decide) ?_
  refine lv_bipush (v := 8) hx hb dX12_byteOf_51 (by decide) ?_
  refine lv_iload hx hb dX12_byteOf_53 (lv_at hl 6 rfl) ?_
  refine lv_iconst (v := 4) hx hb dX12_byteOf_55 (by decide) ?_
  refine lv_irem hx hb dX12_byteOf_56 (by decide) ?_
  refine lv_topi (fun tv1 etv1 => ?_)
  obtain rfl : tv1 = (2 : Int32) := etv1.trans (by first | rfl | decide)
  refine lv_imul hx hb dX12_byteOf_57 ?_
  refine lv_topi (fun tv2 etv2 => ?_)
  obtain rfl : tv2 = (16 : Int32) := etv2.trans (by first | rfl | decide)
  refine lv_isub hx hb dX12_byteOf_58 ?_
  refine lv_topi (fun tv3 etv3 => ?_)
  obtain rfl : tv3 = (8 : Int32) := etv3.trans (by first | rfl | decide)
  refine lv_ishr hx hb dX12_byteOf_59 ?_
  refine lv_sipush (v := 255) hx hb dX12_byteOf_60 (by decide) ?_
  refine lv_iand hx hb dX12_byteOf_63 ?_
  have hP9 := hP.sub (ws' := []) [] rfl
  have hD9 := hD.sub (ws' := []) [] (by decide) rfl
  have hK9 := hK.sub (tys' := []) [] rfl
  exact W.iret (v := ((v3 >>> (8 &&& 31)) &&& 255)) hx hb hr (fun t ht hW => ⟨⟨((v3 >>> (8 &&& 31)) &&& 255), (), rfl, rfl, by rw [ht]; exact hP9, va_K.moved hW.alike hK9, hD9⟩, hS.F ht⟩) hS.2.2 dX12_byteOf_64
def q_X12_byteOf_15 : List Cond := .code yX12_byteOf cX12_byteOf 7 (some .int) :: (([] : List Cond))
set_option maxHeartbeats 4000000 in
set_option maxRecDepth 100000 in
theorem k_X12_byteOf_15 (l : Launch) (dC : Nat → ClassId) (dI : Nat → Nat → Nat) (v0 v1 v2 v3 v4 : Int32) (sz : Nat) : Met l yX12_byteOf q_X12_byteOf_15 ({ frames := 0, cells := 0, slots := 0, locals := 0 }) (va_Pc [.int v0, .int v1, .int v2, .int v3, .int v4, .int 15] (fun U => U.heap.size = sz ∧ va_P (dC, dI) vwCl [] U.heap ∧ va_K (dC, dI) vwCl [] U ∧ va_D (fun _ => True) [])) (va_Qi (fun (r : Int32) (_ : Unit) => r = ((v3 >>> (0 &&& 31)) &&& 255)) (fun (_ : Unit) (t : State) => va_P (dC, dI) vwCl [] t.heap ∧ va_K (dC, dI) vwCl [] t ∧ va_D (va_A [] sz) []) (va_A [] sz)) 0 0 (va_A [] sz) := by
  refine Met.ofW (cc := cX12_byteOf) (maxL := 7) (ret := (some .int)) (by decide) rfl ?_
  intro p e s m args below meth c s₁ B hml hv
  obtain ⟨rfl, hsz, hP, hK, hD0⟩ := hv
  have hx := B.exec
  have hb := B.bytes
  have hr := B.returns
  have hts := atoms_spec (ws := q_X12_byteOf_15) B.pre
  have hown : s.vm.findClass RX12 = some m.cls := findClass_of_methodNamed B.named
  have hlocks := B.notSynchronized
  subst hsz
  have hD := hD0.self (sz := s.heap.size)
  generalize hAe : va_A [] s.heap.size = A at hD ⊢
  have hA : ∀ q : Nat, s.heap.size ≤ q → A q := fun q h => by rw [← hAe]; exact Or.inr h
  have hS : va_S A s.heap s.heap [] := va_S.rf
  have hl := lv_entry ([.int v0, .int v1, .int v2, .int v3, .int v4, .int 15]) (n := 7) (Nat.le_of_ble_eq_true rfl)
  rw [lg_entry_eq]
  generalize (lg_sl ([.int v0, .int v1, .int v2, .int v3, .int v4, .int 15]) ++ List.replicate (7 - (lg_sl ([.int v0, .int v1, .int v2, .int v3, .int v4, .int 15])).length) Slot.unset).toArray = ls at hl ⊢
  have hl : lv_has ls 7 [(0, .int v0), (1, .int v1), (2, .int v2), (3, .int v3), (4, .int v4), (5, .int 15)] := hl
  refine lv_iload hx hb dX12_byteOf_0 (lv_at hl 5 rfl) ?_
  refine lv_iconst (v := 4) hx hb dX12_byteOf_2 (by decide) ?_
  refine lv_icmp_ge (tgt := 10) hx hb dX12_byteOf_3 (by decide) (fun _ => ?_) (fun c => absurd (by decide) c)
  refine lv_iload hx hb dX12_byteOf_10 (lv_at hl 5 rfl) ?_
  refine lv_bipush (v := 8) hx hb dX12_byteOf_12 (by decide) ?_
  refine lv_icmp_ge (tgt := 21) hx hb dX12_byteOf_14 (by decide) (fun _ => ?_) (fun c => absurd (by decide) c)
  refine lv_iload hx hb dX12_byteOf_21 (lv_at hl 5 rfl) ?_
  refine lv_bipush (v := 12) hx hb dX12_byteOf_23 (by decide) ?_
  refine lv_icmp_ge (tgt := 32) hx hb dX12_byteOf_25 (by decide) (fun _ => ?_) (fun c => absurd (by decide) c)
  refine lv_iload hx hb dX12_byteOf_32 (lv_at hl 5 rfl) ?_
  refine lv_bipush (v := 16) hx hb dX12_byteOf_34 (by decide) ?_
  refine lv_icmp_ge (tgt := 43) hx hb dX12_byteOf_36 (by decide) (fun c => absurd c (by decide)) (fun _ => ?_)
  refine lv_iload_n hx hb dX12_byteOf_39 rfl (lv_at hl 3 rfl) ?_
  refine lv_goto (tgt := 45) hx hb dX12_byteOf_40 (by decide) ?_
  refine lv_istore (lv' := [(6, .int v3), (0, .int v0), (1, .int v1), (2, .int v2), (3, .int v3), (4, .int v4), (5, .int 15)]) hx hb dX12_byteOf_45 hl (by decide) rfl (fun ls hl => ?_)
  refine lv_iload hx hb dX12_byteOf_47 (lv_at hl 0 rfl) ?_
  refine lv_bipush (v := 24) hx hb dX12_byteOf_49 (by decide) ?_
  refine lv_bipush (v := 8) hx hb dX12_byteOf_51 (by decide) ?_
  refine lv_iload hx hb dX12_byteOf_53 (lv_at hl 6 rfl) ?_
  refine lv_iconst (v := 4) hx hb dX12_byteOf_55 (by decide) ?_
  refine lv_irem hx hb dX12_byteOf_56 (by decide) ?_
  refine lv_topi (fun tv1 etv1 => ?_)
  obtain rfl : tv1 = (3 : Int32) := etv1.trans (by first | rfl | decide)
  refine lv_imul hx hb dX12_byteOf_57 ?_
  refine lv_topi (fun tv2 etv2 => ?_)
  obtain rfl : tv2 = (24 : Int32) := etv2.trans (by first | rfl | decide)
  refine lv_isub hx hb dX12_byteOf_58 ?_
  refine lv_topi (fun tv3 etv3 => ?_)
  obtain rfl : tv3 = (0 : Int32) := etv3.trans (by first | rfl | decide)
  refine lv_ishr hx hb dX12_byteOf_59 ?_
  refine lv_sipush (v := 255) hx hb dX12_byteOf_60 (by decide) ?_
  refine lv_iand hx hb dX12_byteOf_63 ?_
  have hP9 := hP.sub (ws' := []) [] rfl
  have hD9 := hD.sub (ws' := []) [] (by decide) rfl
  have hK9 := hK.sub (tys' := []) [] rfl
  exact W.iret (v := ((v3 >>> (0 &&& 31)) &&& 255)) hx hb hr (fun t ht hW => ⟨⟨((v3 >>> (0 &&& 31)) &&& 255), (), rfl, rfl, by rw [ht]; exact hP9, va_K.moved hW.alike hK9, hD9⟩, hS.F ht⟩) hS.2.2 dX12_byteOf_64
def q_X12_byteOf_16 : List Cond := .code yX12_byteOf cX12_byteOf 7 (some .int) :: (([] : List Cond))
set_option maxHeartbeats 4000000 in
set_option maxRecDepth 100000 in
theorem k_X12_byteOf_16 (l : Launch) (dC : Nat → ClassId) (dI : Nat → Nat → Nat) (v0 v1 v2 v3 v4 : Int32) (sz : Nat) : Met l yX12_byteOf q_X12_byteOf_16 ({ frames := 0, cells := 0, slots := 0, locals := 0 }) (va_Pc [.int v0, .int v1, .int v2, .int v3, .int v4, .int 16] (fun U => U.heap.size = sz ∧ va_P (dC, dI) vwCl [] U.heap ∧ va_K (dC, dI) vwCl [] U ∧ va_D (fun _ => True) [])) (va_Qi (fun (r : Int32) (_ : Unit) => r = ((v4 >>> (24 &&& 31)) &&& 255)) (fun (_ : Unit) (t : State) => va_P (dC, dI) vwCl [] t.heap ∧ va_K (dC, dI) vwCl [] t ∧ va_D (va_A [] sz) []) (va_A [] sz)) 0 0 (va_A [] sz) := by
  refine Met.ofW (cc := cX12_byteOf) (maxL := 7) (ret := (some .int)) (by decide) rfl ?_
  intro p e s m args below meth c s₁ B hml hv
  obtain ⟨rfl, hsz, hP, hK, hD0⟩ := hv
  have hx := B.exec
  have hb := B.bytes
  have hr := B.returns
  have hts := atoms_spec (ws := q_X12_byteOf_16) B.pre
  have hown : s.vm.findClass RX12 = some m.cls := findClass_of_methodNamed B.named
  have hlocks := B.notSynchronized
  subst hsz
  have hD := hD0.self (sz := s.heap.size)
  generalize hAe : va_A [] s.heap.size = A at hD ⊢
  have hA : ∀ q : Nat, s.heap.size ≤ q → A q := fun q h => by rw [← hAe]; exact Or.inr h
  have hS : va_S A s.heap s.heap [] := va_S.rf
  have hl := lv_entry ([.int v0, .int v1, .int v2, .int v3, .int v4, .int 16]) (n := 7) (Nat.le_of_ble_eq_true rfl)
  rw [lg_entry_eq]
  generalize (lg_sl ([.int v0, .int v1, .int v2, .int v3, .int v4, .int 16]) ++ List.replicate (7 - (lg_sl ([.int v0, .int v1, .int v2, .int v3, .int v4, .int 16])).length) Slot.unset).toArray = ls at hl ⊢
  have hl : lv_has ls 7 [(0, .int v0), (1, .int v1), (2, .int v2), (3, .int v3), (4, .int v4), (5, .int 16)] := hl
  refine lv_iload hx hb dX12_byteOf_0 (lv_at hl 5 rfl) ?_
  refine lv_iconst (v := 4) hx hb dX12_byteOf_2 (by decide) ?_
  refine lv_icmp_ge (tgt := 10) hx hb dX12_byteOf_3 (by decide) (fun _ => ?_) (fun c => absurd (by decide) c)
  refine lv_iload hx hb dX12_byteOf_10 (lv_at hl 5 rfl) ?_
  refine lv_bipush (v := 8) hx hb dX12_byteOf_12 (by decide) ?_
  refine lv_icmp_ge (tgt := 21) hx hb dX12_byteOf_14 (by decide) (fun _ => ?_) (fun c => absurd (by decide) c)
  refine lv_iload hx hb dX12_byteOf_21 (lv_at hl 5 rfl) ?_
  refine lv_bipush (v := 12) hx hb dX12_byteOf_23 (by decide) ?_
  refine lv_icmp_ge (tgt := 32) hx hb dX12_byteOf_25 (by decide) (fun _ => ?_) (fun c => absurd (by decide) c)
  refine lv_iload hx hb dX12_byteOf_32 (lv_at hl 5 rfl) ?_
  refine lv_bipush (v := 16) hx hb dX12_byteOf_34 (by decide) ?_
  refine lv_icmp_ge (tgt := 43) hx hb dX12_byteOf_36 (by decide) (fun _ => ?_) (fun c => absurd (by decide) c)
  refine lv_iload hx hb dX12_byteOf_43 (lv_at hl 4 rfl) ?_
  refine lv_istore (lv' := [(6, .int v4), (0, .int v0), (1, .int v1), (2, .int v2), (3, .int v3), (4, .int v4), (5, .int 16)]) hx hb dX12_byteOf_45 hl (by decide) rfl (fun ls hl => ?_)
  refine lv_iload hx hb dX12_byteOf_47 (lv_at hl 0 rfl) ?_
  refine lv_bipush (v := 24) hx hb dX12_byteOf_49 (by decide) ?_
  refine lv_bipush (v := 8) hx hb dX12_byteOf_51 (by decide) ?_
  refine lv_iload hx hb dX12_byteOf_53 (lv_at hl 6 rfl) ?_
  refine lv_iconst (v := 4) hx hb dX12_byteOf_55 (by decide) ?_
  refine lv_irem hx hb dX12_byteOf_56 (by decide) ?_
  refine lv_topi (fun tv1 etv1 => ?_)
  obtain rfl : tv1 = (0 : Int32) := etv1.trans (by first | rfl | decide)
  refine lv_imul hx hb dX12_byteOf_57 ?_
  refine lv_topi (fun tv2 etv2 => ?_)
  obtain rfl : tv2 = (0 : Int32) := etv2.trans (by first | rfl | decide)
  refine lv_isub hx hb dX12_byteOf_58 ?_
  refine lv_topi (fun tv3 etv3 => ?_)
  obtain rfl : tv3 = (24 : Int32) := etv3.trans (by first | rfl | decide)
  refine lv_ishr hx hb dX12_byteOf_59 ?_
  refine lv_sipush (v := 255) hx hb dX12_byteOf_60 (by decide) ?_
  refine lv_iand hx hb dX12_byteOf_63 ?_
  have hP9 := hP.sub (ws' := []) [] rfl
  have hD9 := hD.sub (ws' := []) [] (by decide) rfl
  have hK9 := hK.sub (tys' := []) [] rfl
  exact W.iret (v := ((v4 >>> (24 &&& 31)) &&& 255)) hx hb hr (fun t ht hW => ⟨⟨((v4 >>> (24 &&& 31)) &&& 255), (), rfl, rfl, by rw [ht]; exact hP9, va_K.moved hW.alike hK9, hD9⟩, hS.F ht⟩) hS.2.2 dX12_byteOf_64
def q_X12_byteOf_17 : List Cond := .code yX12_byteOf cX12_byteOf 7 (some .int) :: (([] : List Cond))
set_option maxHeartbeats 4000000 in
set_option maxRecDepth 100000 in
theorem k_X12_byteOf_17 (l : Launch) (dC : Nat → ClassId) (dI : Nat → Nat → Nat) (v0 v1 v2 v3 v4 : Int32) (sz : Nat) : Met l yX12_byteOf q_X12_byteOf_17 ({ frames := 0, cells := 0, slots := 0, locals := 0 }) (va_Pc [.int v0, .int v1, .int v2, .int v3, .int v4, .int 17] (fun U => U.heap.size = sz ∧ va_P (dC, dI) vwCl [] U.heap ∧ va_K (dC, dI) vwCl [] U ∧ va_D (fun _ => True) [])) (va_Qi (fun (r : Int32) (_ : Unit) => r = ((v4 >>> (16 &&& 31)) &&& 255)) (fun (_ : Unit) (t : State) => va_P (dC, dI) vwCl [] t.heap ∧ va_K (dC, dI) vwCl [] t ∧ va_D (va_A [] sz) []) (va_A [] sz)) 0 0 (va_A [] sz) := by
  refine Met.ofW (cc := cX12_byteOf) (maxL := 7) (ret := (some .int)) (by decide) rfl ?_
  intro p e s m args below meth c s₁ B hml hv
  obtain ⟨rfl, hsz, hP, hK, hD0⟩ := hv
  have hx := B.exec
  have hb := B.bytes
  have hr := B.returns
  have hts := atoms_spec (ws := q_X12_byteOf_17) B.pre
  have hown : s.vm.findClass RX12 = some m.cls := findClass_of_methodNamed B.named
  have hlocks := B.notSynchronized
  subst hsz
  have hD := hD0.self (sz := s.heap.size)
  generalize hAe : va_A [] s.heap.size = A at hD ⊢
  have hA : ∀ q : Nat, s.heap.size ≤ q → A q := fun q h => by rw [← hAe]; exact Or.inr h
  have hS : va_S A s.heap s.heap [] := va_S.rf
  have hl := lv_entry ([.int v0, .int v1, .int v2, .int v3, .int v4, .int 17]) (n := 7) (Nat.le_of_ble_eq_true rfl)
  rw [lg_entry_eq]
  generalize (lg_sl ([.int v0, .int v1, .int v2, .int v3, .int v4, .int 17]) ++ List.replicate (7 - (lg_sl ([.int v0, .int v1, .int v2, .int v3, .int v4, .int 17])).length) Slot.unset).toArray = ls at hl ⊢
  have hl : lv_has ls 7 [(0, .int v0), (1, .int v1), (2, .int v2), (3, .int v3), (4, .int v4), (5, .int 17)] := hl
  refine lv_iload hx hb dX12_byteOf_0 (lv_at hl 5 rfl) ?_
  refine lv_iconst (v := 4) hx hb dX12_byteOf_2 (by decide) ?_
  refine lv_icmp_ge (tgt := 10) hx hb dX12_byteOf_3 (by decide) (fun _ => ?_) (fun c => absurd (by decide) c)
  refine lv_iload hx hb dX12_byteOf_10 (lv_at hl 5 rfl) ?_
  refine lv_bipush (v := 8) hx hb dX12_byteOf_12 (by decide) ?_
  refine lv_icmp_ge (tgt := 21) hx hb dX12_byteOf_14 (by decide) (fun _ => ?_) (fun c => absurd (by decide) c)
  refine lv_iload hx hb dX12_byteOf_21 (lv_at hl 5 rfl) ?_
  refine lv_bipush (v := 12) hx hb dX12_byteOf_23 (by decide) ?_
  refine lv_icmp_ge (tgt := 32) hx hb dX12_byteOf_25 (by decide) (fun _ => ?_) (fun c => absurd (by decide) c)
  refine lv_iload hx hb dX12_byteOf_32 (lv_at hl 5 rfl) ?_
  refine lv_bipush (v := 16) hx hb dX12_byteOf_34 (by decide) ?_
  refine lv_icmp_ge (tgt := 43) hx hb dX12_byteOf_36 (by decide) (fun _ => ?_) (fun c => absurd (by decide) c)
  refine lv_iload hx hb dX12_byteOf_43 (lv_at hl 4 rfl) ?_
  refine lv_istore (lv' := [(6, .int v4), (0, .int v0), (1, .int v1), (2, .int v2), (3, .int v3), (4, .int v4), (5, .int 17)]) hx hb dX12_byteOf_45 hl (by decide) rfl (fun ls hl => ?_)
  refine lv_iload hx hb dX12_byteOf_47 (lv_at hl 0 rfl) ?_
  refine lv_bipush (v := 24) hx hb dX12_byteOf_49 (by decide) ?_
  refine lv_bipush (v := 8) hx hb dX12_byteOf_51 (by decide) ?_
  refine lv_iload hx hb dX12_byteOf_53 (lv_at hl 6 rfl) ?_
  refine lv_iconst (v := 4) hx hb dX12_byteOf_55 (by decide) ?_
  refine lv_irem hx hb dX12_byteOf_56 (by decide) ?_
  refine lv_topi (fun tv1 etv1 => ?_)
  obtain rfl : tv1 = (1 : Int32) := etv1.trans (by first | rfl | decide)
  refine lv_imul hx hb dX12_byteOf_57 ?_
  refine lv_topi (fun tv2 etv2 => ?_)
  obtain rfl : tv2 = (8 : Int32) := etv2.trans (by first | rfl | decide)
  refine lv_isub hx hb dX12_byteOf_58 ?_
  refine lv_topi (fun tv3 etv3 => ?_)
  obtain rfl : tv3 = (16 : Int32) := etv3.trans (by first | rfl | decide)
  refine lv_ishr hx hb dX12_byteOf_59 ?_
  refine lv_sipush (v := 255) hx hb dX12_byteOf_60 (by decide) ?_
  refine lv_iand hx hb dX12_byteOf_63 ?_
  have hP9 := hP.sub (ws' := []) [] rfl
  have hD9 := hD.sub (ws' := []) [] (by decide) rfl
  have hK9 := hK.sub (tys' := []) [] rfl
  exact W.iret (v := ((v4 >>> (16 &&& 31)) &&& 255)) hx hb hr (fun t ht hW => ⟨⟨((v4 >>> (16 &&& 31)) &&& 255), (), rfl, rfl, by rw [ht]; exact hP9, va_K.moved hW.alike hK9, hD9⟩, hS.F ht⟩) hS.2.2 dX12_byteOf_64
def q_X12_byteOf_18 : List Cond := .code yX12_byteOf cX12_byteOf 7 (some .int) :: (([] : List Cond))
set_option maxHeartbeats 4000000 in
set_option maxRecDepth 100000 in
theorem k_X12_byteOf_18 (l : Launch) (dC : Nat → ClassId) (dI : Nat → Nat → Nat) (v0 v1 v2 v3 v4 : Int32) (sz : Nat) : Met l yX12_byteOf q_X12_byteOf_18 ({ frames := 0, cells := 0, slots := 0, locals := 0 }) (va_Pc [.int v0, .int v1, .int v2, .int v3, .int v4, .int 18] (fun U => U.heap.size = sz ∧ va_P (dC, dI) vwCl [] U.heap ∧ va_K (dC, dI) vwCl [] U ∧ va_D (fun _ => True) [])) (va_Qi (fun (r : Int32) (_ : Unit) => r = ((v4 >>> (8 &&& 31)) &&& 255)) (fun (_ : Unit) (t : State) => va_P (dC, dI) vwCl [] t.heap ∧ va_K (dC, dI) vwCl [] t ∧ va_D (va_A [] sz) []) (va_A [] sz)) 0 0 (va_A [] sz) := by
  refine Met.ofW (cc := cX12_byteOf) (maxL := 7) (ret := (some .int)) (by decide) rfl ?_
  intro p e s m args below meth c s₁ B hml hv
  obtain ⟨rfl, hsz, hP, hK, hD0⟩ := hv
  have hx := B.exec
  have hb := B.bytes
  have hr := B.returns
  have hts := atoms_spec (ws := q_X12_byteOf_18) B.pre
  have hown : s.vm.findClass RX12 = some m.cls := findClass_of_methodNamed B.named
  have hlocks := B.notSynchronized
  subst hsz
  have hD := hD0.self (sz := s.heap.size)
  generalize hAe : va_A [] s.heap.size = A at hD ⊢
  have hA : ∀ q : Nat, s.heap.size ≤ q → A q := fun q h => by rw [← hAe]; exact Or.inr h
  have hS : va_S A s.heap s.heap [] := va_S.rf
  have hl := lv_entry ([.int v0, .int v1, .int v2, .int v3, .int v4, .int 18]) (n := 7) (Nat.le_of_ble_eq_true rfl)
  rw [lg_entry_eq]
  generalize (lg_sl ([.int v0, .int v1, .int v2, .int v3, .int v4, .int 18]) ++ List.replicate (7 - (lg_sl ([.int v0, .int v1, .int v2, .int v3, .int v4, .int 18])).length) Slot.unset).toArray = ls at hl ⊢
  have hl : lv_has ls 7 [(0, .int v0), (1, .int v1), (2, .int v2), (3, .int v3), (4, .int v4), (5, .int 18)] := hl
  refine lv_iload hx hb dX12_byteOf_0 (lv_at hl 5 rfl) ?_
  refine lv_iconst (v := 4) hx hb dX12_byteOf_2 (by decide) ?_
  refine lv_icmp_ge (tgt := 10) hx hb dX12_byteOf_3 (by decide) (fun _ => ?_) (fun c => absurd (by decide) c)
  refine lv_iload hx hb dX12_byteOf_10 (lv_at hl 5 rfl) ?_
  refine lv_bipush (v := 8) hx hb dX12_byteOf_12 (by decide) ?_
  refine lv_icmp_ge (tgt := 21) hx hb dX12_byteOf_14 (by decide) (fun _ => ?_) (fun c => absurd (by decide) c)
  refine lv_iload hx hb dX12_byteOf_21 (lv_at hl 5 rfl) ?_
  refine lv_bipush (v := 12) hx hb dX12_byteOf_23 (by decide) ?_
  refine lv_icmp_ge (tgt := 32) hx hb dX12_byteOf_25 (by decide) (fun _ => ?_) (fun c => absurd (by decide) c)
  refine lv_iload hx hb dX12_byteOf_32 (lv_at hl 5 rfl) ?_
  refine lv_bipush (v := 16) hx hb dX12_byteOf_34 (by decide) ?_
  refine lv_icmp_ge (tgt := 43) hx hb dX12_byteOf_36 (by decide) (fun _ => ?_) (fun c => absurd (by decide) c)
  refine lv_iload hx hb dX12_byteOf_43 (lv_at hl 4 rfl) ?_
  refine lv_istore (lv' := [(6, .int v4), (0, .int v0), (1, .int v1), (2, .int v2), (3, .int v3), (4, .int v4), (5, .int 18)]) hx hb dX12_byteOf_45 hl (by decide) rfl (fun ls hl => ?_)
  refine lv_iload hx hb dX12_byteOf_47 (lv_at hl 0 rfl) ?_
  refine lv_bipush (v := 24) hx hb dX12_byteOf_49 (by decide) ?_
  refine lv_bipush (v := 8) hx hb dX12_byteOf_51 (by decide) ?_
  refine lv_iload hx hb dX12_byteOf_53 (lv_at hl 6 rfl) ?_
  refine lv_iconst (v := 4) hx hb dX12_byteOf_55 (by decide) ?_
  refine lv_irem hx hb dX12_byteOf_56 (by decide) ?_
  refine lv_topi (fun tv1 etv1 => ?_)
  obtain rfl : tv1 = (2 : Int32) := etv1.trans (by first | rfl | decide)
  refine lv_imul hx hb dX12_byteOf_57 ?_
  refine lv_topi (fun tv2 etv2 => ?_)
  obtain rfl : tv2 = (16 : Int32) := etv2.trans (by first | rfl | decide)
  refine lv_isub hx hb dX12_byteOf_58 ?_
  refine lv_topi (fun tv3 etv3 => ?_)
  obtain rfl : tv3 = (8 : Int32) := etv3.trans (by first | rfl | decide)
  refine lv_ishr hx hb dX12_byteOf_59 ?_
  refine lv_sipush (v := 255) hx hb dX12_byteOf_60 (by decide) ?_
  refine lv_iand hx hb dX12_byteOf_63 ?_
  have hP9 := hP.sub (ws' := []) [] rfl
  have hD9 := hD.sub (ws' := []) [] (by decide) rfl
  have hK9 := hK.sub (tys' := []) [] rfl
  exact W.iret (v := ((v4 >>> (8 &&& 31)) &&& 255)) hx hb hr (fun t ht hW => ⟨⟨((v4 >>> (8 &&& 31)) &&& 255), (), rfl, rfl, by rw [ht]; exact hP9, va_K.moved hW.alike hK9, hD9⟩, hS.F ht⟩) hS.2.2 dX12_byteOf_64
def q_X12_byteOf_19 : List Cond := .code yX12_byteOf cX12_byteOf 7 (some .int) :: (([] : List Cond))
set_option maxHeartbeats 4000000 in
set_option maxRecDepth 100000 in
theorem k_X12_byteOf_19 (l : Launch) (dC : Nat → ClassId) (dI : Nat → Nat → Nat) (v0 v1 v2 v3 v4 : Int32) (sz : Nat) : Met l yX12_byteOf q_X12_byteOf_19 ({ frames := 0, cells := 0, slots := 0, locals := 0 }) (va_Pc [.int v0, .int v1, .int v2, .int v3, .int v4, .int 19] (fun U => U.heap.size = sz ∧ va_P (dC, dI) vwCl [] U.heap ∧ va_K (dC, dI) vwCl [] U ∧ va_D (fun _ => True) [])) (va_Qi (fun (r : Int32) (_ : Unit) => r = ((v4 >>> (0 &&& 31)) &&& 255)) (fun (_ : Unit) (t : State) => va_P (dC, dI) vwCl [] t.heap ∧ va_K (dC, dI) vwCl [] t ∧ va_D (va_A [] sz) []) (va_A [] sz)) 0 0 (va_A [] sz) := by
  refine Met.ofW (cc := cX12_byteOf) (maxL := 7) (ret := (some .int)) (by decide) rfl ?_
  intro p e s m args below meth c s₁ B hml hv
  obtain ⟨rfl, hsz, hP, hK, hD0⟩ := hv
  have hx := B.exec
  have hb := B.bytes
  have hr := B.returns
  have hts := atoms_spec (ws := q_X12_byteOf_19) B.pre
  have hown : s.vm.findClass RX12 = some m.cls := findClass_of_methodNamed B.named
  have hlocks := B.notSynchronized
  subst hsz
  have hD := hD0.self (sz := s.heap.size)
  generalize hAe : va_A [] s.heap.size = A at hD ⊢
  have hA : ∀ q : Nat, s.heap.size ≤ q → A q := fun q h => by rw [← hAe]; exact Or.inr h
  have hS : va_S A s.heap s.heap [] := va_S.rf
  have hl := lv_entry ([.int v0, .int v1, .int v2, .int v3, .int v4, .int 19]) (n := 7) (Nat.le_of_ble_eq_true rfl)
  rw [lg_entry_eq]
  generalize (lg_sl ([.int v0, .int v1, .int v2, .int v3, .int v4, .int 19]) ++ List.replicate (7 - (lg_sl ([.int v0, .int v1, .int v2, .int v3, .int v4, .int 19])).length) Slot.unset).toArray = ls at hl ⊢
  have hl : lv_has ls 7 [(0, .int v0), (1, .int v1), (2, .int v2), (3, .int v3), (4, .int v4), (5, .int 19)] := hl
  refine lv_iload hx hb dX12_byteOf_0 (lv_at hl 5 rfl) ?_
  refine lv_iconst (v := 4) hx hb dX12_byteOf_2 (by decide) ?_
  refine lv_icmp_ge (tgt := 10) hx hb dX12_byteOf_3 (by decide) (fun _ => ?_) (fun c => absurd (by decide) c)
  refine lv_iload hx hb dX12_byteOf_10 (lv_at hl 5 rfl) ?_
  refine lv_bipush (v := 8) hx hb dX12_byteOf_12 (by decide) ?_
  refine lv_icmp_ge (tgt := 21) hx hb dX12_byteOf_14 (by decide) (fun _ => ?_) (fun c => absurd (by decide) c)
  refine lv_iload hx hb dX12_byteOf_21 (lv_at hl 5 rfl) ?_
  refine lv_bipush (v := 12) hx hb dX12_byteOf_23 (by decide) ?_
  refine lv_icmp_ge (tgt := 32) hx hb dX12_byteOf_25 (by decide) (fun _ => ?_) (fun c => absurd (by decide) c)
  refine lv_iload hx hb dX12_byteOf_32 (lv_at hl 5 rfl) ?_
  refine lv_bipush (v := 16) hx hb dX12_byteOf_34 (by decide) ?_
  refine lv_icmp_ge (tgt := 43) hx hb dX12_byteOf_36 (by decide) (fun _ => ?_) (fun c => absurd (by decide) c)
  refine lv_iload hx hb dX12_byteOf_43 (lv_at hl 4 rfl) ?_
  refine lv_istore (lv' := [(6, .int v4), (0, .int v0), (1, .int v1), (2, .int v2), (3, .int v3), (4, .int v4), (5, .int 19)]) hx hb dX12_byteOf_45 hl (by decide) rfl (fun ls hl => ?_)
  refine lv_iload hx hb dX12_byteOf_47 (lv_at hl 0 rfl) ?_
  refine lv_bipush (v := 24) hx hb dX12_byteOf_49 (by decide) ?_
  refine lv_bipush (v := 8) hx hb dX12_byteOf_51 (by decide) ?_
  refine lv_iload hx hb dX12_byteOf_53 (lv_at hl 6 rfl) ?_
  refine lv_iconst (v := 4) hx hb dX12_byteOf_55 (by decide) ?_
  refine lv_irem hx hb dX12_byteOf_56 (by decide) ?_
  refine lv_topi (fun tv1 etv1 => ?_)
  obtain rfl : tv1 = (3 : Int32) := etv1.trans (by first | rfl | decide)
  refine lv_imul hx hb dX12_byteOf_57 ?_
  refine lv_topi (fun tv2 etv2 => ?_)
  obtain rfl : tv2 = (24 : Int32) := etv2.trans (by first | rfl | decide)
  refine lv_isub hx hb dX12_byteOf_58 ?_
  refine lv_topi (fun tv3 etv3 => ?_)
  obtain rfl : tv3 = (0 : Int32) := etv3.trans (by first | rfl | decide)
  refine lv_ishr hx hb dX12_byteOf_59 ?_
  refine lv_sipush (v := 255) hx hb dX12_byteOf_60 (by decide) ?_
  refine lv_iand hx hb dX12_byteOf_63 ?_
  have hP9 := hP.sub (ws' := []) [] rfl
  have hD9 := hD.sub (ws' := []) [] (by decide) rfl
  have hK9 := hK.sub (tys' := []) [] rfl
  exact W.iret (v := ((v4 >>> (0 &&& 31)) &&& 255)) hx hb hr (fun t ht hW => ⟨⟨((v4 >>> (0 &&& 31)) &&& 255), (), rfl, rfl, by rw [ht]; exact hP9, va_K.moved hW.alike hK9, hD9⟩, hS.F ht⟩) hS.2.2 dX12_byteOf_64
