abbrev wd_171f232f (p0 : Nat) (p1 : Int32) (p2 : Nat) (p3 : Int32) (p4 : Int32) (p5 : Int32) (p6 : Int32) (p7 : Nat) (p8 : Nat) (p9 : Nat) (p10 : Nat) (p11 : Nat) (p12 : Nat) (p13 : Nat) (p14 : Int32) (p15 : Int32) (p16 : Nat) (p17 : Nat) (p18 : Nat) (p19 : Nat) (p20 : Int32) (p21 : Nat) (p22 : Nat) (p23 : Int32) (p24 : Int32) (p25 : Nat) (p26 : Nat) (p27 : Int32) (p28 : Int32) (p29 : Nat) (p30 : Int32) (p31 : Int32) (p32 : Nat) (p33 : Int32) (p34 : Int64) (p35 : Nat) (p36 : Int32) (p37 : Int32) (p38 : Nat) (p39 : Nat) (p40 : Nat) (p41 : Nat) (p42 : Nat) (p43 : Nat) (p44 : Int32) (p45 : Nat) (p46 : Nat) (p47 : Nat) (p48 : Int32) : va_W := [(p0, .inr (12, [.int p1, .ref p2, .int p3, .int p4, .int p5, .int p6, .ref p7, .ref p8, .ref p9, .ref p10, .ref p11, .ref p12, .ref p13, .int p14, .int p15, .ref p16, .ref p17, .ref p18, .ref p19, .int p20, .ref p21, .ref p22, .int p23, .int p24, .ref p25, .ref p26, .int p27, .int p28, .ref p29, .int p30, .int p31, .ref p32, .int p33, .long p34, .ref p35, .int p36, .int p37, .ref p38, .ref p39, .ref p40, .ref p41, .ref p42, .ref p43, .int p44, .ref p45, .ref p46, .ref p47, .int p48]))]
abbrev wd_50966390 (p0 : Nat) (p1 : Int32) (p2 : Nat) (p3 : Int32) (p4 : Int32) (p5 : Int32) (p6 : Int32) (p7 : Nat) (p8 : Nat) (p9 : Nat) (p10 : Nat) (p11 : Nat) (p12 : Nat) (p13 : Nat) (p14 : Int32) (p15 : Int32) (p16 : Nat) (p17 : Nat) (p18 : Nat) (p19 : Nat) (p20 : Int32) (p21 : Nat) (p22 : Nat) (p23 : Int32) (p24 : Int32) (p25 : Nat) (p26 : Nat) (p27 : Int32) (p28 : Int32) (p29 : Nat) (p30 : Int32) (p31 : Int32) (p32 : Nat) (p33 : Int32) (p34 : Int64) (p35 : Nat) (p36 : Int32) (p37 : Int32) (p38 : Nat) (p39 : Nat) (p40 : Nat) (p41 : Nat) (p42 : Nat) (p43 : Nat) (p44 : Int32) (p45 : Nat) (p46 : Nat) (p47 : Nat) (p48 : Int32) (p49 : Nat) (p50 : ClassId) (p51 : Nat → Int32) : va_W := [(p0, .inr (12, [.int p1, .ref p2, .int p3, .int p4, .int p5, .int p6, .ref p7, .ref p8, .ref p9, .ref p10, .ref p11, .ref p12, .ref p13, .int p14, .int p15, .ref p16, .ref p17, .ref p18, .ref p19, .int p20, .ref p21, .ref p22, .int p23, .int p24, .ref p25, .ref p26, .int p27, .int p28, .ref p29, .int p30, .int p31, .ref p32, .int p33, .long p34, .ref p35, .int p36, .int p37, .ref p38, .ref p39, .ref p40, .ref p41, .ref p42, .ref p43, .int p44, .ref p45, .ref p46, .ref p47, .int p48])), (p49, .inl (p50, 4, .inl p51))]
abbrev wd_5013416a (p0 : Nat) (p1 : Int32) (p2 : Nat) (p3 : Int32) (p4 : Int32) (p5 : Int32) (p6 : Int32) (p7 : Nat) (p8 : Nat) (p9 : Nat) (p10 : Nat) (p11 : Nat) (p12 : Nat) (p13 : Nat) (p14 : Int32) (p15 : Int32) (p16 : Nat) (p17 : Nat) (p18 : Nat) (p19 : Nat) (p20 : Int32) (p21 : Nat) (p22 : Nat) (p23 : Int32) (p24 : Int32) (p25 : Nat) (p26 : Nat) (p27 : Int32) (p28 : Int32) (p29 : Nat) (p30 : Int32) (p31 : Int32) (p32 : Nat) (p33 : Int32) (p34 : Int64) (p35 : Nat) (p36 : Int32) (p37 : Int32) (p38 : Nat) (p39 : Nat) (p40 : Nat) (p41 : Nat) (p42 : Nat) (p43 : Nat) (p44 : Int32) (p45 : Nat) (p46 : Nat) (p47 : Nat) (p48 : Int32) (p49 : Nat) (p50 : ClassId) (p51 : Nat → Int32) : va_W := [(p0, .inr (12, [.int p1, .ref p2, .int p3, .int p4, .int p5, .int p6, .ref p7, .ref p8, .ref p9, .ref p10, .ref p11, .ref p12, .ref p13, .int p14, .int p15, .ref p16, .ref p17, .ref p18, .ref p19, .int p20, .ref p21, .ref p22, .int p23, .int p24, .ref p25, .ref p26, .int p27, .int p28, .ref p29, .int p30, .int p31, .ref p32, .int p33, .long p34, .ref p35, .int p36, .int p37, .ref p38, .ref p39, .ref p40, .ref p41, .ref p42, .ref p43, .int p44, .ref p45, .ref p46, .ref p47, .int p48])), (p49, .inl (p50, 247, .inl p51))]
abbrev wd_5b5f7811 (p0 : Nat) (p1 : Int32) (p2 : Nat) (p3 : Int32) (p4 : Int32) (p5 : Int32) (p6 : Int32) (p7 : Nat) (p8 : Nat) (p9 : Nat) (p10 : Nat) (p11 : Nat) (p12 : Nat) (p13 : Nat) (p14 : Int32) (p15 : Int32) (p16 : Nat) (p17 : Nat) (p18 : Nat) (p19 : Nat) (p20 : Int32) (p21 : Nat) (p22 : Nat) (p23 : Int32) (p24 : Int32) (p25 : Nat) (p26 : Nat) (p27 : Int32) (p28 : Int32) (p29 : Nat) (p30 : Int32) (p31 : Int32) (p32 : Nat) (p33 : Int32) (p34 : Int64) (p35 : Nat) (p36 : Int32) (p37 : Int32) (p38 : Nat) (p39 : Nat) (p40 : Nat) (p41 : Nat) (p42 : Nat) (p43 : Nat) (p44 : Int32) (p45 : Nat) (p46 : Nat) (p47 : Nat) (p48 : Int32) (p49 : Nat) (p50 : ClassId) (p51 : Nat → Int32) : va_W := [(p0, .inr (12, [.int p1, .ref p2, .int p3, .int p4, .int p5, .int p6, .ref p7, .ref p8, .ref p9, .ref p10, .ref p11, .ref p12, .ref p13, .int p14, .int p15, .ref p16, .ref p17, .ref p18, .ref p19, .int p20, .ref p21, .ref p22, .int p23, .int p24, .ref p25, .ref p26, .int p27, .int p28, .ref p29, .int p30, .int p31, .ref p32, .int p33, .long p34, .ref p35, .int p36, .int p37, .ref p38, .ref p39, .ref p40, .ref p41, .ref p42, .ref p43, .int p44, .ref p45, .ref p46, .ref p47, .int p48])), (p49, .inl (p50, 5, .inl p51))]
abbrev wd_78675856 (p0 : Nat) (p1 : Int32) (p2 : Nat) (p3 : Int32) (p4 : Int32) (p5 : Int32) (p6 : Int32) (p7 : Nat) (p8 : Nat) (p9 : Nat) (p10 : Nat) (p11 : Nat) (p12 : Nat) (p13 : Nat) (p14 : Int32) (p15 : Int32) (p16 : Nat) (p17 : Nat) (p18 : Nat) (p19 : Nat) (p20 : Int32) (p21 : Nat) (p22 : Nat) (p23 : Int32) (p24 : Int32) (p25 : Nat) (p26 : Nat) (p27 : Int32) (p28 : Int32) (p29 : Nat) (p30 : Int32) (p31 : Int32) (p32 : Nat) (p33 : Int32) (p34 : Int64) (p35 : Nat) (p36 : Int32) (p37 : Int32) (p38 : Nat) (p39 : Nat) (p40 : Nat) (p41 : Nat) (p42 : Nat) (p43 : Nat) (p44 : Int32) (p45 : Nat) (p46 : Nat) (p47 : Nat) (p48 : Int32) (p49 : Nat) (p50 : ClassId) (p51 : Nat → Int32) (p52 : Nat) (p53 : ClassId) (p54 : Nat → Int32) : va_W := [(p0, .inr (12, [.int p1, .ref p2, .int p3, .int p4, .int p5, .int p6, .ref p7, .ref p8, .ref p9, .ref p10, .ref p11, .ref p12, .ref p13, .int p14, .int p15, .ref p16, .ref p17, .ref p18, .ref p19, .int p20, .ref p21, .ref p22, .int p23, .int p24, .ref p25, .ref p26, .int p27, .int p28, .ref p29, .int p30, .int p31, .ref p32, .int p33, .long p34, .ref p35, .int p36, .int p37, .ref p38, .ref p39, .ref p40, .ref p41, .ref p42, .ref p43, .int p44, .ref p45, .ref p46, .ref p47, .int p48])), (p49, .inl (p50, 4, .inl p51)), (p52, .inl (p53, 247, .inl p54))]
abbrev wd_6f8f3203 (p0 : Nat) (p1 : ClassId) (p2 : Nat → Int32) : va_W := [(p0, .inl (p1, 4, .inl p2))]
abbrev wd_04244fe9 (p0 : Nat) (p1 : Int32) (p2 : Nat) (p3 : Int32) (p4 : Int32) (p5 : Int32) (p6 : Int32) (p7 : Nat) (p8 : Nat) (p9 : Nat) (p10 : Nat) (p11 : Nat) (p12 : Nat) (p13 : Nat) (p14 : Int32) (p15 : Int32) (p16 : Nat) (p17 : Nat) (p18 : Nat) (p19 : Nat) (p20 : Int32) (p21 : Nat) (p22 : Nat) (p23 : Int32) (p24 : Int32) (p25 : Nat) (p26 : Nat) (p27 : Int32) (p28 : Int32) (p29 : Nat) (p30 : Int32) (p31 : Int32) (p32 : Nat) (p33 : Int32) (p34 : Int64) (p35 : Nat) (p36 : Int32) (p37 : Int32) (p38 : Nat) (p39 : Nat) (p40 : Nat) (p41 : Nat) (p42 : Nat) (p43 : Nat) (p44 : Int32) (p45 : Nat) (p46 : Nat) (p47 : Nat) (p48 : Int32) (p49 : Nat) (p50 : ClassId) (p51 : Nat → Int32) (p52 : Nat) (p53 : ClassId) (p54 : Nat → Int32) : va_W := [(p0, .inr (12, [.int p1, .ref p2, .int p3, .int p4, .int p5, .int p6, .ref p7, .ref p8, .ref p9, .ref p10, .ref p11, .ref p12, .ref p13, .int p14, .int p15, .ref p16, .ref p17, .ref p18, .ref p19, .int p20, .ref p21, .ref p22, .int p23, .int p24, .ref p25, .ref p26, .int p27, .int p28, .ref p29, .int p30, .int p31, .ref p32, .int p33, .long p34, .ref p35, .int p36, .int p37, .ref p38, .ref p39, .ref p40, .ref p41, .ref p42, .ref p43, .int p44, .ref p45, .ref p46, .ref p47, .int p48])), (p49, .inl (p50, 247, .inl p51)), (p52, .inl (p53, 528, .inl p54))]
abbrev wd_baa7feb8 (p0 : Nat) (p1 : Int32) (p2 : Nat) (p3 : Int32) (p4 : Int32) (p5 : Int32) (p6 : Int32) (p7 : Nat) (p8 : Nat) (p9 : Nat) (p10 : Nat) (p11 : Nat) (p12 : Nat) (p13 : Nat) (p14 : Int32) (p15 : Int32) (p16 : Nat) (p17 : Nat) (p18 : Nat) (p19 : Nat) (p20 : Int32) (p21 : Nat) (p22 : Nat) (p23 : Int32) (p24 : Int32) (p25 : Nat) (p26 : Nat) (p27 : Int32) (p28 : Int32) (p29 : Nat) (p30 : Int32) (p31 : Int32) (p32 : Nat) (p33 : Int32) (p34 : Int64) (p35 : Nat) (p36 : Int32) (p37 : Int32) (p38 : Nat) (p39 : Nat) (p40 : Nat) (p41 : Nat) (p42 : Nat) (p43 : Nat) (p44 : Int32) (p45 : Nat) (p46 : Nat) (p47 : Nat) (p48 : Int32) (p49 : Nat) (p50 : ClassId) (p51 : Nat → Int32) (p52 : Nat) (p53 : ClassId) (p54 : Nat → Int32) : va_W := [(p0, .inr (12, [.int p1, .ref p2, .int p3, .int p4, .int p5, .int p6, .ref p7, .ref p8, .ref p9, .ref p10, .ref p11, .ref p12, .ref p13, .int p14, .int p15, .ref p16, .ref p17, .ref p18, .ref p19, .int p20, .ref p21, .ref p22, .int p23, .int p24, .ref p25, .ref p26, .int p27, .int p28, .ref p29, .int p30, .int p31, .ref p32, .int p33, .long p34, .ref p35, .int p36, .int p37, .ref p38, .ref p39, .ref p40, .ref p41, .ref p42, .ref p43, .int p44, .ref p45, .ref p46, .ref p47, .int p48])), (p49, .inl (p50, 247, .inl p51)), (p52, .inl (p53, 9880, .inl p54))]
abbrev wd_29945385 (p0 : Nat) (p1 : Int32) (p2 : Nat) (p3 : Int32) (p4 : Int32) (p5 : Int32) (p6 : Int32) (p7 : Nat) (p8 : Nat) (p9 : Nat) (p10 : Nat) (p11 : Nat) (p12 : Nat) (p13 : Nat) (p14 : Int32) (p15 : Int32) (p16 : Nat) (p17 : Nat) (p18 : Nat) (p19 : Nat) (p20 : Int32) (p21 : Nat) (p22 : Nat) (p23 : Int32) (p24 : Int32) (p25 : Nat) (p26 : Nat) (p27 : Int32) (p28 : Int32) (p29 : Nat) (p30 : Int32) (p31 : Int32) (p32 : Nat) (p33 : Int32) (p34 : Int64) (p35 : Nat) (p36 : Int32) (p37 : Int32) (p38 : Nat) (p39 : Nat) (p40 : Nat) (p41 : Nat) (p42 : Nat) (p43 : Nat) (p44 : Int32) (p45 : Nat) (p46 : Nat) (p47 : Nat) (p48 : Int32) (p49 : Nat) (p50 : ClassId) (p51 : Nat → Int32) (p52 : Nat) (p53 : ClassId) (p54 : Nat → Int32) : va_W := [(p0, .inr (12, [.int p1, .ref p2, .int p3, .int p4, .int p5, .int p6, .ref p7, .ref p8, .ref p9, .ref p10, .ref p11, .ref p12, .ref p13, .int p14, .int p15, .ref p16, .ref p17, .ref p18, .ref p19, .int p20, .ref p21, .ref p22, .int p23, .int p24, .ref p25, .ref p26, .int p27, .int p28, .ref p29, .int p30, .int p31, .ref p32, .int p33, .long p34, .ref p35, .int p36, .int p37, .ref p38, .ref p39, .ref p40, .ref p41, .ref p42, .ref p43, .int p44, .ref p45, .ref p46, .ref p47, .int p48])), (p49, .inl (p50, 247, .inl p51)), (p52, .inl (p53, 247, .inl p54))]
def q_X12_in : List Cond := .code yX12_in cX12_in 3 (some .boolean) :: (([] : List Cond))
set_option maxHeartbeats 4000000 in
set_option maxRecDepth 100000 in
theorem k_X12_in (l : Launch) (dC : Nat → ClassId) (dI : Nat → Nat → Nat) (v0 : Int32) (v1 : Int32) (v2 : Int32) (sz : Nat) : Met l yX12_in q_X12_in ({ frames := 0, cells := 0, slots := 0, locals := 0 }) (va_Pc [.int v0, .int v1, .int v2] (fun U => U.heap.size = sz ∧ va_P (dC, dI) vwCl [] U.heap ∧ va_K (dC, dI) vwCl [] U ∧ va_D (fun _ => True) [])) (va_Qi (fun (r : Int32) (r9 : Int32) => r9 = r) (fun (r : Int32) (t : State) => ((0 ≤ r.toInt) ∧ (r.toInt ≤ 1) ∧ ((r.toInt = 1 → v1.toInt ≤ v0.toInt)) ∧ ((r.toInt = 1 → v0.toInt ≤ v2.toInt)) ∧ (r.toInt = 0 → ¬ (v1.toInt ≤ v0.toInt ∧ v0.toInt ≤ v2.toInt)) ∧ va_P (dC, dI) vwCl [] t.heap ∧ va_K (dC, dI) vwCl [] t ∧ va_D (va_A [] sz) [])) (va_A [] sz)) 0 0 (va_A [] sz) := by
  refine Met.ofW (cc := cX12_in) (maxL := 3) (ret := (some .boolean)) (by decide) rfl ?_
  intro p e s m args below meth c s₁ B hml hv
  obtain ⟨rfl, hsz, hP, hK, hD0⟩ := hv
  have hx := B.exec
  have hb := B.bytes
  have hr := B.returns
  have hts := atoms_spec (ws := q_X12_in) B.pre
  have hown : s.vm.findClass RX12 = some m.cls := findClass_of_methodNamed B.named
  have hlocks := B.notSynchronized
  subst hsz
  have hD := hD0.self (sz := s.heap.size)
  generalize hAe : va_A [] s.heap.size = A at hD ⊢
  have hA : ∀ q : Nat, s.heap.size ≤ q → A q := fun q h => by rw [← hAe]; exact Or.inr h
  have hS : va_S A s.heap s.heap [] := va_S.rf
  generalize hQ : (MQ below _ _ s 0 0 A) = Q
  have hl := lv_entry ([.int v0, .int v1, .int v2]) (n := 3) (Nat.le_of_ble_eq_true rfl)
  rw [lg_entry_eq]
  generalize (lg_sl ([.int v0, .int v1, .int v2]) ++ List.replicate (3 - (lg_sl ([.int v0, .int v1, .int v2])).length) Slot.unset).toArray = ls at hl ⊢
  have hl : lv_has ls 3 [(0, .int v0), (1, .int v1), (2, .int v2)] := hl
  obtain ⟨H, hH⟩ : ∃ H : Heap, H = s.heap := ⟨_, rfl⟩
  obtain ⟨locs, hlocs⟩ : ∃ y : List Loc, y = [] := ⟨_, rfl⟩
  have hS : va_S A s.heap H locs := by rw [hH, hlocs]; exact va_S.rf
  have hP : va_P (dC, dI) vwCl [] H := by rw [hH]; exact hP
  rw [← hH, ← hlocs]
  refine lv_iload_n hx hb dX12_in_0 rfl (lv_at hl 0 rfl) ?_
  refine lv_iload_n hx hb dX12_in_1 rfl (lv_at hl 1 rfl) ?_
  refine lv_icmp_lt (tgt := 14) hx hb dX12_in_2 (by decide) (fun c1 => ?_) (fun c1 => ?_)
  · skip
    have fc1 : v0.toInt < v1.toInt := Int32.lt_iff_toInt_lt.mp c1
    have r1c1 := Int32.toInt_lt v0
    have r2c1 := Int32.toInt_lt v1
    have r3c1 := Int32.le_toInt v0
    have r4c1 := Int32.le_toInt v1
    refine lv_iconst (v := 0) hx hb dX12_in_14 (by decide) ?_
    subst hQ
    have hP9 := hP.sub (ws' := []) [] rfl
    have hD9 := hD.sub (ws' := []) [] (by decide) rfl
    have hK9 := hK.sub (tys' := []) [] rfl
    exact W.zret (v := 0) hx hb hr rfl (fun t ht hW => ⟨⟨0, 0, rfl, rfl, ⟨by first | omega | decide, by first | omega | decide, fun h9 => absurd h9 (by decide), fun h9 => absurd h9 (by decide), fun _ => by omega, by rw [ht]; exact hP9, va_K.moved hW.alike hK9, hD9⟩⟩, hS.F ht⟩) hS.2.2 dX12_in_15
  · skip
    have fc1 : ¬ (v0.toInt < v1.toInt) := fun h9 => c1 (Int32.lt_iff_toInt_lt.mpr h9)
    have r1c1 := Int32.toInt_lt v0
    have r2c1 := Int32.toInt_lt v1
    have r3c1 := Int32.le_toInt v0
    have r4c1 := Int32.le_toInt v1
    refine lv_iload_n hx hb dX12_in_5 rfl (lv_at hl 0 rfl) ?_
    refine lv_iload_n hx hb dX12_in_6 rfl (lv_at hl 2 rfl) ?_
    refine lv_icmp_gt (tgt := 14) hx hb dX12_in_7 (by decide) (fun c2 => ?_) (fun c2 => ?_)
    · skip
      have fc2 : v2.toInt < v0.toInt := Int32.lt_iff_toInt_lt.mp c2
      have r1c2 := Int32.toInt_lt v0
      have r2c2 := Int32.toInt_lt v2
      have r3c2 := Int32.le_toInt v0
      have r4c2 := Int32.le_toInt v2
      refine lv_iconst (v := 0) hx hb dX12_in_14 (by decide) ?_
      subst hQ
      have hP9 := hP.sub (ws' := []) [] rfl
      have hD9 := hD.sub (ws' := []) [] (by decide) rfl
      have hK9 := hK.sub (tys' := []) [] rfl
      exact W.zret (v := 0) hx hb hr rfl (fun t ht hW => ⟨⟨0, 0, rfl, rfl, ⟨by first | omega | decide, by first | omega | decide, fun h9 => absurd h9 (by decide), fun h9 => absurd h9 (by decide), fun _ => by omega, by rw [ht]; exact hP9, va_K.moved hW.alike hK9, hD9⟩⟩, hS.F ht⟩) hS.2.2 dX12_in_15
    · skip
      have fc2 : ¬ (v2.toInt < v0.toInt) := fun h9 => c2 (Int32.lt_iff_toInt_lt.mpr h9)
      have r1c2 := Int32.toInt_lt v0
      have r2c2 := Int32.toInt_lt v2
      have r3c2 := Int32.le_toInt v0
      have r4c2 := Int32.le_toInt v2
      refine lv_iconst (v := 1) hx hb dX12_in_10 (by decide) ?_
      refine lv_goto (tgt := 15) hx hb dX12_in_11 (by decide) ?_
      subst hQ
      have hP9 := hP.sub (ws' := []) [] rfl
      have hD9 := hD.sub (ws' := []) [] (by decide) rfl
      have hK9 := hK.sub (tys' := []) [] rfl
      exact W.zret (v := 1) hx hb hr rfl (fun t ht hW => ⟨⟨1, 1, rfl, rfl, ⟨by first | omega | decide, by first | omega | decide, fun _ => by omega, fun _ => by omega, fun h9 => absurd h9 (by decide), by rw [ht]; exact hP9, va_K.moved hW.alike hK9, hD9⟩⟩, hS.F ht⟩) hS.2.2 dX12_in_15
def q_X12_has : List Cond := .code yX12_has cX12_has 2 (some .boolean) :: (([] : List Cond))
set_option maxHeartbeats 4000000 in
set_option maxRecDepth 100000 in
theorem k_X12_has (l : Launch) (dC : Nat → ClassId) (dI : Nat → Nat → Nat) (v0 : Int32) (v1 : Int32) (sz : Nat) : Met l yX12_has q_X12_has ({ frames := 0, cells := 0, slots := 0, locals := 0 }) (va_Pc [.int v0, .int v1] (fun U => U.heap.size = sz ∧ va_P (dC, dI) vwCl [] U.heap ∧ va_K (dC, dI) vwCl [] U ∧ va_D (fun _ => True) [])) (va_Qi (fun (r : Int32) (r9 : Int32) => r9 = r) (fun (r : Int32) (t : State) => ((0 ≤ r.toInt) ∧ (r.toInt ≤ 1) ∧ (r.toInt = 1 → pg_hb v0 v1 = true) ∧ (r.toInt = 0 → pg_hb v0 v1 = false) ∧ va_P (dC, dI) vwCl [] t.heap ∧ va_K (dC, dI) vwCl [] t ∧ va_D (va_A [] sz) [])) (va_A [] sz)) 0 0 (va_A [] sz) := by
  refine Met.ofW (cc := cX12_has) (maxL := 2) (ret := (some .boolean)) (by decide) rfl ?_
  intro p e s m args below meth c s₁ B hml hv
  obtain ⟨rfl, hsz, hP, hK, hD0⟩ := hv
  have hx := B.exec
  have hb := B.bytes
  have hr := B.returns
  have hts := atoms_spec (ws := q_X12_has) B.pre
  have hown : s.vm.findClass RX12 = some m.cls := findClass_of_methodNamed B.named
  have hlocks := B.notSynchronized
  subst hsz
  have hD := hD0.self (sz := s.heap.size)
  generalize hAe : va_A [] s.heap.size = A at hD ⊢
  have hA : ∀ q : Nat, s.heap.size ≤ q → A q := fun q h => by rw [← hAe]; exact Or.inr h
  have hS : va_S A s.heap s.heap [] := va_S.rf
  generalize hQ : (MQ below _ _ s 0 0 A) = Q
  have hl := lv_entry ([.int v0, .int v1]) (n := 2) (Nat.le_of_ble_eq_true rfl)
  rw [lg_entry_eq]
  generalize (lg_sl ([.int v0, .int v1]) ++ List.replicate (2 - (lg_sl ([.int v0, .int v1])).length) Slot.unset).toArray = ls at hl ⊢
  have hl : lv_has ls 2 [(0, .int v0), (1, .int v1)] := hl
  obtain ⟨H, hH⟩ : ∃ H : Heap, H = s.heap := ⟨_, rfl⟩
  obtain ⟨locs, hlocs⟩ : ∃ y : List Loc, y = [] := ⟨_, rfl⟩
  have hS : va_S A s.heap H locs := by rw [hH, hlocs]; exact va_S.rf
  have hP : va_P (dC, dI) vwCl [] H := by rw [hH]; exact hP
  rw [← hH, ← hlocs]
  refine lv_iload_n hx hb dX12_has_0 rfl (lv_at hl 0 rfl) ?_
  refine lv_iload_n hx hb dX12_has_1 rfl (lv_at hl 1 rfl) ?_
  refine lv_ishr hx hb dX12_has_2 ?_
  refine lv_topi (fun t1 et1 => ?_)
  refine lv_iconst (v := 1) hx hb dX12_has_3 (by decide) ?_
  refine lv_iand hx hb dX12_has_4 ?_
  refine lv_topi (fun t2 et2 => ?_)
  have gt2 : 0 ≤ t2.toInt ∧ t2.toInt ≤ 1 := pv_andR et2 (by decide) (by decide)
  refine lv_iconst (v := 1) hx hb dX12_has_5 (by decide) ?_
  refine lv_icmp_ne (tgt := 13) hx hb dX12_has_6 (by decide) (fun c3 => ?_) (fun c3 => ?_)
  · skip
    have fc3 : ¬ (t2.toInt = 1) := fun h9 => c3 (Int32.toInt_inj.mp h9)
    refine lv_iconst (v := 0) hx hb dX12_has_13 (by decide) ?_
    subst hQ
    have hP9 := hP.sub (ws' := []) [] rfl
    have hD9 := hD.sub (ws' := []) [] (by decide) rfl
    have hK9 := hK.sub (tys' := []) [] rfl
    exact W.zret (v := 0) hx hb hr rfl (fun t ht hW => ⟨⟨0, 0, rfl, rfl, ⟨by first | omega | decide, by first | omega | decide, fun h9 => absurd h9 (by decide), fun _ => decide_eq_false (by subst_vars; first | assumption | exact fun h9 => absurd h9.symm (by assumption)), by rw [ht]; exact hP9, va_K.moved hW.alike hK9, hD9⟩⟩, hS.F ht⟩) hS.2.2 dX12_has_14
  · skip
    have fc3 : t2.toInt = 1 := congrArg Int32.toInt c3
    refine lv_iconst (v := 1) hx hb dX12_has_9 (by decide) ?_
    refine lv_goto (tgt := 14) hx hb dX12_has_10 (by decide) ?_
    subst hQ
    have hP9 := hP.sub (ws' := []) [] rfl
    have hD9 := hD.sub (ws' := []) [] (by decide) rfl
    have hK9 := hK.sub (tys' := []) [] rfl
    exact W.zret (v := 1) hx hb hr rfl (fun t ht hW => ⟨⟨1, 1, rfl, rfl, ⟨by first | omega | decide, by first | omega | decide, fun _ => decide_eq_true (by subst_vars; first | assumption | exact Eq.symm (by assumption)), fun h9 => absurd h9 (by decide), by rw [ht]; exact hP9, va_K.moved hW.alike hK9, hD9⟩⟩, hS.F ht⟩) hS.2.2 dX12_has_14
def q_X12_bounded : List Cond := .code yX12_bounded cX12_bounded 2 (some .int) :: (([.constantLong RX12 192 (-1000000), .constantLong RX12 194 (1000000), .methodLink RX12 196 Lib.MathLoose.min_long.x, .static Lib.MathLoose.min_long.x, .initialized "java/lang/Math", .code Lib.MathLoose.min_long.x Lib.MathLoose.min_long.code 4 (some .long), .methodLink RX12 202 Lib.MathLoose.max_long.x, .static Lib.MathLoose.max_long.x, .code Lib.MathLoose.max_long.x Lib.MathLoose.max_long.code 4 (some .long)] : List Cond))
set_option maxHeartbeats 4000000 in
set_option maxRecDepth 100000 in
theorem k_X12_bounded (l : Launch) (dC : Nat → ClassId) (dI : Nat → Nat → Nat) (w0 : Int64) (sz : Nat) : Met l yX12_bounded q_X12_bounded ({ frames := 1, cells := 0, slots := 0, locals := 17 }) (va_Pc [.long w0] (fun U => U.heap.size = sz ∧ va_P (dC, dI) vwCl [] U.heap ∧ va_K (dC, dI) vwCl [] U ∧ va_D (fun _ => True) [])) (va_Qi (fun (r : Int32) (r9 : Int32) => r9 = r) (fun (r : Int32) (t : State) => (va_P (dC, dI) vwCl [] t.heap ∧ va_K (dC, dI) vwCl [] t ∧ va_D (va_A [] sz) [])) (va_A [] sz)) 0 0 (va_A [] sz) := by
  refine Met.ofW (cc := cX12_bounded) (maxL := 2) (ret := (some .int)) (by decide) rfl ?_
  intro p e s m args below meth c s₁ B hml hv
  obtain ⟨rfl, hsz, hP, hK, hD0⟩ := hv
  have hx := B.exec
  have hb := B.bytes
  have hr := B.returns
  have hts := atoms_spec (ws := q_X12_bounded) B.pre
  have hown : s.vm.findClass RX12 = some m.cls := findClass_of_methodNamed B.named
  have hlocks := B.notSynchronized
  subst hsz
  have hD := hD0.self (sz := s.heap.size)
  generalize hAe : va_A [] s.heap.size = A at hD ⊢
  have hA : ∀ q : Nat, s.heap.size ≤ q → A q := fun q h => by rw [← hAe]; exact Or.inr h
  have hS : va_S A s.heap s.heap [] := va_S.rf
  generalize hQ : (MQ below _ _ s 0 0 A) = Q
  have hl := lv_entry ([.long w0]) (n := 2) (Nat.le_of_ble_eq_true rfl)
  rw [lg_entry_eq]
  generalize (lg_sl ([.long w0]) ++ List.replicate (2 - (lg_sl ([.long w0])).length) Slot.unset).toArray = ls at hl ⊢
  have hl : lv_has ls 2 [(0, .long w0)] := hl
  obtain ⟨H, hH⟩ : ∃ H : Heap, H = s.heap := ⟨_, rfl⟩
  obtain ⟨locs, hlocs⟩ : ∃ y : List Loc, y = [] := ⟨_, rfl⟩
  have hS : va_S A s.heap H locs := by rw [hH, hlocs]; exact va_S.rf
  have hP : va_P (dC, dI) vwCl [] H := by rw [hH]; exact hP
  rw [← hH, ← hlocs]
  refine lv_ldc2 (v := (-1000000)) hx hb hown (hts (.constantLong RX12 192 (-1000000)) (List.mem_cons_of_mem _ (List.mem_of_getElem? (i := 0) rfl))) dX12_bounded_0 ?_
  refine lv_ldc2 (v := 1000000) hx hb hown (hts (.constantLong RX12 194 (1000000)) (List.mem_cons_of_mem _ (List.mem_of_getElem? (i := 1) rfl))) dX12_bounded_3 ?_
  refine lv_lload_n hx hb dX12_bounded_6 rfl (lv_at hl 0 rfl) ?_
  refine va_mmin_long hx hb (by rw [hml]; exact hl.1.symm) hown (hts (.methodLink RX12 196 Lib.MathLoose.min_long.x) (List.mem_cons_of_mem _ (List.mem_of_getElem? (i := 2) rfl))) (hts (.static Lib.MathLoose.min_long.x) (List.mem_cons_of_mem _ (List.mem_of_getElem? (i := 3) rfl))) (hts (.initialized "java/lang/Math") (List.mem_cons_of_mem _ (List.mem_of_getElem? (i := 4) rfl))) (hts (.code Lib.MathLoose.min_long.x Lib.MathLoose.min_long.code 4 (some .long)) (List.mem_cons_of_mem _ (List.mem_of_getElem? (i := 5) rfl))) (Nat.le_of_ble_eq_true rfl) (Nat.le_of_ble_eq_true rfl) (Nat.le_of_ble_eq_true rfl) (Nat.le_of_ble_eq_true rfl) dX12_bounded_7 ?_
  refine lv_topl (fun y1 ey1 => ?_)
  refine va_mmax_long hx hb (by rw [hml]; exact hl.1.symm) hown (hts (.methodLink RX12 202 Lib.MathLoose.max_long.x) (List.mem_cons_of_mem _ (List.mem_of_getElem? (i := 6) rfl))) (hts (.static Lib.MathLoose.max_long.x) (List.mem_cons_of_mem _ (List.mem_of_getElem? (i := 7) rfl))) (hts (.initialized "java/lang/Math") (List.mem_cons_of_mem _ (List.mem_of_getElem? (i := 4) rfl))) (hts (.code Lib.MathLoose.max_long.x Lib.MathLoose.max_long.code 4 (some .long)) (List.mem_cons_of_mem _ (List.mem_of_getElem? (i := 8) rfl))) (Nat.le_of_ble_eq_true rfl) (Nat.le_of_ble_eq_true rfl) (Nat.le_of_ble_eq_true rfl) (Nat.le_of_ble_eq_true rfl) dX12_bounded_10 ?_
  refine lv_topl (fun y2 ey2 => ?_)
  obtain ⟨t3, et3⟩ : ∃ z : Int32, z = (y2 : Int64).toInt32 := ⟨_, rfl⟩
  refine lv_l2i (v := t3) hx hb dX12_bounded_13 (by rw [et3]) ?_
  subst hQ
  have hP9 := hP.sub (ws' := []) [] rfl
  have hD9 := hD.sub (ws' := []) [] (by decide) rfl
  have hK9 := hK.sub (tys' := []) [] rfl
  exact W.iret (v := t3) hx hb hr (fun t ht hW => ⟨⟨t3, t3, rfl, rfl, ⟨by rw [ht]; exact hP9, va_K.moved hW.alike hK9, hD9⟩⟩, hS.F ht⟩) hS.2.2 dX12_bounded_14
def q_X12_worked : List Cond := .code yX12_worked cX12_worked 5 (some .int) :: (([.code yX12_bounded cX12_bounded 2 (some .int), .constantLong RX12 192 (-1000000), .constantLong RX12 194 (1000000), .methodLink RX12 196 Lib.MathLoose.min_long.x, .static Lib.MathLoose.min_long.x, .initialized "java/lang/Math", .code Lib.MathLoose.min_long.x Lib.MathLoose.min_long.code 4 (some .long), .methodLink RX12 202 Lib.MathLoose.max_long.x, .static Lib.MathLoose.max_long.x, .code Lib.MathLoose.max_long.x Lib.MathLoose.max_long.code 4 (some .long), .initialized RX12, .static yX12_bounded, .methodLink RX12 205 yX12_bounded] : List Cond))
set_option maxRecDepth 20000 in
theorem g_X12_worked_0 : GoodIn q_X12_worked (va_wsS RX12 205 yX12_bounded q_X12_bounded) := goodIn_app (goodIn_r _ [13, 12, 11] rfl (by decide +kernel)) (goodIn_r (.code yX12_bounded cX12_bounded 2 (some .int) :: [.constantLong RX12 192 (-1000000), .constantLong RX12 194 (1000000), .methodLink RX12 196 Lib.MathLoose.min_long.x, .static Lib.MathLoose.min_long.x, .initialized "java/lang/Math", .code Lib.MathLoose.min_long.x Lib.MathLoose.min_long.code 4 (some .long), .methodLink RX12 202 Lib.MathLoose.max_long.x, .static Lib.MathLoose.max_long.x, .code Lib.MathLoose.max_long.x Lib.MathLoose.max_long.code 4 (some .long)]) [1, 2, 3, 4, 5, 6, 7, 8, 9, 10] rfl (by decide +kernel))
set_option maxHeartbeats 4000000 in
set_option maxRecDepth 100000 in
theorem k_X12_worked (l : Launch) (dC : Nat → ClassId) (dI : Nat → Nat → Nat) (v0 : Int32) (w1 : Int64) (w2 : Int64) (sz : Nat) : Met l yX12_worked q_X12_worked ({ frames := 2, cells := 0, slots := 0, locals := 38 }) (va_Pc [.int v0, .long w1, .long w2] (fun U => U.heap.size = sz ∧ va_P (dC, dI) vwCl [] U.heap ∧ va_K (dC, dI) vwCl [] U ∧ va_D (fun _ => True) [])) (va_Qi (fun (r : Int32) (r9 : Int32) => r9 = r) (fun (r : Int32) (t : State) => (va_P (dC, dI) vwCl [] t.heap ∧ va_K (dC, dI) vwCl [] t ∧ va_D (va_A [] sz) [])) (va_A [] sz)) 0 0 (va_A [] sz) := by
  refine Met.ofW (cc := cX12_worked) (maxL := 5) (ret := (some .int)) (by decide) rfl ?_
  intro p e s m args below meth c s₁ B hml hv
  obtain ⟨rfl, hsz, hP, hK, hD0⟩ := hv
  have hx := B.exec
  have hb := B.bytes
  have hr := B.returns
  have hts := atoms_spec (ws := q_X12_worked) B.pre
  have hown : s.vm.findClass RX12 = some m.cls := findClass_of_methodNamed B.named
  have hlocks := B.notSynchronized
  subst hsz
  have hD := hD0.self (sz := s.heap.size)
  generalize hAe : va_A [] s.heap.size = A at hD ⊢
  have hA : ∀ q : Nat, s.heap.size ≤ q → A q := fun q h => by rw [← hAe]; exact Or.inr h
  have hS : va_S A s.heap s.heap [] := va_S.rf
  generalize hQ : (MQ below _ _ s 0 0 A) = Q
  have hl := lv_entry ([.int v0, .long w1, .long w2]) (n := 5) (Nat.le_of_ble_eq_true rfl)
  rw [lg_entry_eq]
  generalize (lg_sl ([.int v0, .long w1, .long w2]) ++ List.replicate (5 - (lg_sl ([.int v0, .long w1, .long w2])).length) Slot.unset).toArray = ls at hl ⊢
  have hl : lv_has ls 5 [(0, .int v0), (1, .long w1), (3, .long w2)] := hl
  obtain ⟨H, hH⟩ : ∃ H : Heap, H = s.heap := ⟨_, rfl⟩
  obtain ⟨locs, hlocs⟩ : ∃ y : List Loc, y = [] := ⟨_, rfl⟩
  have hS : va_S A s.heap H locs := by rw [hH, hlocs]; exact va_S.rf
  have hP : va_P (dC, dI) vwCl [] H := by rw [hH]; exact hP
  rw [← hH, ← hlocs]
  refine lv_iload_n hx hb dX12_worked_0 rfl (lv_at hl 0 rfl) ?_
  by_cases c1 : v0 = 2
  · skip
    have fc1 : v0.toInt = 2 := congrArg Int32.toInt c1
    refine lv_tableIn (off := 51) (tgt := 52) hx hb dX12_worked_1 (by rw [c1]; decide) (by rw [c1]; decide) (by rw [c1]; rfl) (by decide) ?_
    refine lv_lload_n hx hb dX12_worked_52 rfl (lv_at hl 1 rfl) ?_
    refine lv_lload_n hx hb dX12_worked_53 rfl (lv_at hl 2 rfl) ?_
    refine lv_ladd hx hb dX12_worked_54 ?_
    refine lv_topl (fun y2 ey2 => ?_)
    have hPc := hP.sub (ws' := []) [] rfl
    have hDc := hD.sub (ws' := []) [] (by decide) rfl
    have hKc := hK.sub (tys' := []) [] rfl
    have hFc := va_free (wc := []) hD hS hA [] rfl
    refine va_calli (va_runS (As := [.long y2]) (rest := []) ⟨hx, hb, hml, hown, hts⟩ (k_X12_bounded l dC dI y2  H.size) (va_cwS 1 hts g_X12_worked_0 rfl rfl rfl (by decide +kernel) ⟨Nat.le_of_ble_eq_true rfl, Nat.le_of_ble_eq_true rfl⟩) (pv_PS hPc hKc hDc) rfl rfl hl.1 rfl (lv_room (Nat.le_of_ble_eq_true rfl)) dX12_worked_55 ⟨Nat.le_of_ble_eq_true rfl, Nat.le_of_ble_eq_true rfl⟩) hS (fun q _ h => hFc q h) hFc (fun ra3 u t H1 locs ht hvm hwra3 hB hz1 hk1 hS => ?_)
    try rw [hwra3] at hB
    obtain ⟨hP1, hK1, hD1⟩ := hB
    rw [ht] at hP1
    obtain ⟨hP2, hD2⟩ := va_join (wr := []) (w1 := []) hP hD [] [] rfl rfl (by decide) (by decide) hk1 hFc hP1 hD1
    clear hP hD hPc hDc hKc hFc hP1 hK1 hD1 hk1 hz1
    generalize H1 = H at hP2 hS ⊢
    have hP : va_P (dC, dI) vwCl [] H := hP2
    have hD : va_D A [] := hD2
    clear hP2 hD2
    subst hQ
    have hP9 := hP.sub (ws' := []) [] rfl
    have hD9 := hD.sub (ws' := []) [] (by decide) rfl
    have hK9 := hK.sub (tys' := []) [] rfl
    exact W.iret (v := ra3) hx hb hr (fun t ht hW => ⟨⟨ra3, ra3, rfl, rfl, ⟨by rw [ht]; exact hP9, va_K.moved hW.alike hK9, hD9⟩⟩, hS.F ht⟩) hS.2.2 dX12_worked_58
  by_cases c4 : v0 = 3
  · skip
    have fc4 : v0.toInt = 3 := congrArg Int32.toInt c4
    refine lv_tableIn (off := 58) (tgt := 59) hx hb dX12_worked_1 (by rw [c4]; decide) (by rw [c4]; decide) (by rw [c4]; rfl) (by decide) ?_
    refine lv_lload_n hx hb dX12_worked_59 rfl (lv_at hl 1 rfl) ?_
    refine lv_lload_n hx hb dX12_worked_60 rfl (lv_at hl 2 rfl) ?_
    refine lv_lsub hx hb dX12_worked_61 ?_
    refine lv_topl (fun y5 ey5 => ?_)
    have hPc := hP.sub (ws' := []) [] rfl
    have hDc := hD.sub (ws' := []) [] (by decide) rfl
    have hKc := hK.sub (tys' := []) [] rfl
    have hFc := va_free (wc := []) hD hS hA [] rfl
    refine va_calli (va_runS (As := [.long y5]) (rest := []) ⟨hx, hb, hml, hown, hts⟩ (k_X12_bounded l dC dI y5  H.size) (va_cwS 1 hts g_X12_worked_0 rfl rfl rfl (by decide +kernel) ⟨Nat.le_of_ble_eq_true rfl, Nat.le_of_ble_eq_true rfl⟩) (pv_PS hPc hKc hDc) rfl rfl hl.1 rfl (lv_room (Nat.le_of_ble_eq_true rfl)) dX12_worked_62 ⟨Nat.le_of_ble_eq_true rfl, Nat.le_of_ble_eq_true rfl⟩) hS (fun q _ h => hFc q h) hFc (fun ra6 u t H1 locs ht hvm hwra6 hB hz1 hk1 hS => ?_)
    try rw [hwra6] at hB
    obtain ⟨hP1, hK1, hD1⟩ := hB
    rw [ht] at hP1
    obtain ⟨hP2, hD2⟩ := va_join (wr := []) (w1 := []) hP hD [] [] rfl rfl (by decide) (by decide) hk1 hFc hP1 hD1
    clear hP hD hPc hDc hKc hFc hP1 hK1 hD1 hk1 hz1
    generalize H1 = H at hP2 hS ⊢
    have hP : va_P (dC, dI) vwCl [] H := hP2
    have hD : va_D A [] := hD2
    clear hP2 hD2
    subst hQ
    have hP9 := hP.sub (ws' := []) [] rfl
    have hD9 := hD.sub (ws' := []) [] (by decide) rfl
    have hK9 := hK.sub (tys' := []) [] rfl
    exact W.iret (v := ra6) hx hb hr (fun t ht hW => ⟨⟨ra6, ra6, rfl, rfl, ⟨by rw [ht]; exact hP9, va_K.moved hW.alike hK9, hD9⟩⟩, hS.F ht⟩) hS.2.2 dX12_worked_65
  by_cases c7 : v0 = 4
  · skip
    have fc7 : v0.toInt = 4 := congrArg Int32.toInt c7
    refine lv_tableIn (off := 65) (tgt := 66) hx hb dX12_worked_1 (by rw [c7]; decide) (by rw [c7]; decide) (by rw [c7]; rfl) (by decide) ?_
    refine lv_lload_n hx hb dX12_worked_66 rfl (lv_at hl 1 rfl) ?_
    refine lv_lload_n hx hb dX12_worked_67 rfl (lv_at hl 2 rfl) ?_
    refine lv_lmul hx hb dX12_worked_68 ?_
    refine lv_topl (fun y8 ey8 => ?_)
    have hPc := hP.sub (ws' := []) [] rfl
    have hDc := hD.sub (ws' := []) [] (by decide) rfl
    have hKc := hK.sub (tys' := []) [] rfl
    have hFc := va_free (wc := []) hD hS hA [] rfl
    refine va_calli (va_runS (As := [.long y8]) (rest := []) ⟨hx, hb, hml, hown, hts⟩ (k_X12_bounded l dC dI y8  H.size) (va_cwS 1 hts g_X12_worked_0 rfl rfl rfl (by decide +kernel) ⟨Nat.le_of_ble_eq_true rfl, Nat.le_of_ble_eq_true rfl⟩) (pv_PS hPc hKc hDc) rfl rfl hl.1 rfl (lv_room (Nat.le_of_ble_eq_true rfl)) dX12_worked_69 ⟨Nat.le_of_ble_eq_true rfl, Nat.le_of_ble_eq_true rfl⟩) hS (fun q _ h => hFc q h) hFc (fun ra9 u t H1 locs ht hvm hwra9 hB hz1 hk1 hS => ?_)
    try rw [hwra9] at hB
    obtain ⟨hP1, hK1, hD1⟩ := hB
    rw [ht] at hP1
    obtain ⟨hP2, hD2⟩ := va_join (wr := []) (w1 := []) hP hD [] [] rfl rfl (by decide) (by decide) hk1 hFc hP1 hD1
    clear hP hD hPc hDc hKc hFc hP1 hK1 hD1 hk1 hz1
    generalize H1 = H at hP2 hS ⊢
    have hP : va_P (dC, dI) vwCl [] H := hP2
    have hD : va_D A [] := hD2
    clear hP2 hD2
    subst hQ
    have hP9 := hP.sub (ws' := []) [] rfl
    have hD9 := hD.sub (ws' := []) [] (by decide) rfl
    have hK9 := hK.sub (tys' := []) [] rfl
    exact W.iret (v := ra9) hx hb hr (fun t ht hW => ⟨⟨ra9, ra9, rfl, rfl, ⟨by rw [ht]; exact hP9, va_K.moved hW.alike hK9, hD9⟩⟩, hS.F ht⟩) hS.2.2 dX12_worked_72
  by_cases c10 : v0 = 5
  · skip
    have fc10 : v0.toInt = 5 := congrArg Int32.toInt c10
    refine lv_tableIn (off := 72) (tgt := 73) hx hb dX12_worked_1 (by rw [c10]; decide) (by rw [c10]; decide) (by rw [c10]; rfl) (by decide) ?_
    refine lv_lload_n hx hb dX12_worked_73 rfl (lv_at hl 2 rfl) ?_
    refine lv_lconst (v := 0) hx hb dX12_worked_74 (by decide) ?_
    refine W.lcmp hx hb dX12_worked_75 ?_
    refine lv_topi (fun t11 et11 => ?_)
    have hJ13 : ∀ (x12 : Int32) (H : Heap) (locs : List Loc) (ls : Array Slot), va_P (dC, dI) vwCl [] H → va_D A [] → va_S A s.heap H locs → lv_has ls 5 [(0, .int v0), (1, .long w1), (3, .long w2)] → W p l e ({ frames := 2, cells := 0, slots := 0, locals := 38 }) s m ([.int v0, .long w1, .long w2] : List Value).toArray below meth c H locs 0 0 Q (F0 m 89 ls [.int x12]) := by
      intro x12 H locs ls hP hD hS hl
      subst hQ
      have hP9 := hP.sub (ws' := []) [] rfl
      have hD9 := hD.sub (ws' := []) [] (by decide) rfl
      have hK9 := hK.sub (tys' := []) [] rfl
      exact W.iret (v := x12) hx hb hr (fun t ht hW => ⟨⟨x12, x12, rfl, rfl, ⟨by rw [ht]; exact hP9, va_K.moved hW.alike hK9, hD9⟩⟩, hS.F ht⟩) hS.2.2 dX12_worked_89
    refine lv_if_ne (tgt := 83) hx hb dX12_worked_76 (by decide) (fun c14 => ?_) (fun c14 => ?_)
    · skip
      have fc14 : ¬ (t11.toInt = 0) := fun h9 => c14 (Int32.toInt_inj.mp h9)
      have zc14 : ¬ w2 = 0 := pv_lne et11 c14
      refine lv_lload_n hx hb dX12_worked_83 rfl (lv_at hl 1 rfl) ?_
      refine lv_lload_n hx hb dX12_worked_84 rfl (lv_at hl 2 rfl) ?_
      refine lv_ldiv hx hb dX12_worked_85 zc14 ?_
      refine lv_topl (fun y15 ey15 => ?_)
      have hPc := hP.sub (ws' := []) [] rfl
      have hDc := hD.sub (ws' := []) [] (by decide) rfl
      have hKc := hK.sub (tys' := []) [] rfl
      have hFc := va_free (wc := []) hD hS hA [] rfl
      refine va_calli (va_runS (As := [.long y15]) (rest := []) ⟨hx, hb, hml, hown, hts⟩ (k_X12_bounded l dC dI y15  H.size) (va_cwS 1 hts g_X12_worked_0 rfl rfl rfl (by decide +kernel) ⟨Nat.le_of_ble_eq_true rfl, Nat.le_of_ble_eq_true rfl⟩) (pv_PS hPc hKc hDc) rfl rfl hl.1 rfl (lv_room (Nat.le_of_ble_eq_true rfl)) dX12_worked_86 ⟨Nat.le_of_ble_eq_true rfl, Nat.le_of_ble_eq_true rfl⟩) hS (fun q _ h => hFc q h) hFc (fun ra16 u t H1 locs ht hvm hwra16 hB hz1 hk1 hS => ?_)
      try rw [hwra16] at hB
      obtain ⟨hP1, hK1, hD1⟩ := hB
      rw [ht] at hP1
      obtain ⟨hP2, hD2⟩ := va_join (wr := []) (w1 := []) hP hD [] [] rfl rfl (by decide) (by decide) hk1 hFc hP1 hD1
      clear hP hD hPc hDc hKc hFc hP1 hK1 hD1 hk1 hz1
      generalize H1 = H at hP2 hS ⊢
      have hP : va_P (dC, dI) vwCl [] H := hP2
      have hD : va_D A [] := hD2
      clear hP2 hD2
      exact hJ13 ra16 H locs ls hP hD hS (lv_sub hl [0, 1, 2] rfl)
    · skip
      have fc14 : t11.toInt = 0 := congrArg Int32.toInt c14
      refine lv_iconst (v := 0) hx hb dX12_worked_79 (by decide) ?_
      refine lv_goto (tgt := 89) hx hb dX12_worked_80 (by decide) ?_
      exact hJ13 0 H locs ls hP hD hS (lv_sub hl [0, 1, 2] rfl)
  by_cases c17 : v0 = 6
  · skip
    have fc17 : v0.toInt = 6 := congrArg Int32.toInt c17
    refine lv_tableIn (off := 89) (tgt := 90) hx hb dX12_worked_1 (by rw [c17]; decide) (by rw [c17]; decide) (by rw [c17]; rfl) (by decide) ?_
    refine lv_lload_n hx hb dX12_worked_90 rfl (lv_at hl 1 rfl) ?_
    refine lv_lload_n hx hb dX12_worked_91 rfl (lv_at hl 2 rfl) ?_
    refine W.lcmp hx hb dX12_worked_92 ?_
    refine lv_topi (fun t18 et18 => ?_)
    have hJ20 : ∀ (x19 : Int32) (H : Heap) (locs : List Loc) (ls : Array Slot), 0 ≤ x19.toInt → x19.toInt ≤ 1 → va_P (dC, dI) vwCl [] H → va_D A [] → va_S A s.heap H locs → lv_has ls 5 [(0, .int v0), (1, .long w1), (3, .long w2)] → W p l e ({ frames := 2, cells := 0, slots := 0, locals := 38 }) s m ([.int v0, .long w1, .long w2] : List Value).toArray below meth c H locs 0 0 Q (F0 m 101 ls [.int x19]) := by
      intro x19 H locs ls qa_x19 qb_x19 hP hD hS hl
      subst hQ
      have hP9 := hP.sub (ws' := []) [] rfl
      have hD9 := hD.sub (ws' := []) [] (by decide) rfl
      have hK9 := hK.sub (tys' := []) [] rfl
      exact W.iret (v := x19) hx hb hr (fun t ht hW => ⟨⟨x19, x19, rfl, rfl, ⟨by rw [ht]; exact hP9, va_K.moved hW.alike hK9, hD9⟩⟩, hS.F ht⟩) hS.2.2 dX12_worked_101
    refine lv_if_ne (tgt := 100) hx hb dX12_worked_93 (by decide) (fun c21 => ?_) (fun c21 => ?_)
    · skip
      have fc21 : ¬ (t18.toInt = 0) := fun h9 => c21 (Int32.toInt_inj.mp h9)
      refine lv_iconst (v := 0) hx hb dX12_worked_100 (by decide) ?_
      exact hJ20 0 H locs ls (by decide) (by decide) hP hD hS (lv_sub hl [0, 1, 2] rfl)
    · skip
      have fc21 : t18.toInt = 0 := congrArg Int32.toInt c21
      refine lv_iconst (v := 1) hx hb dX12_worked_96 (by decide) ?_
      refine lv_goto (tgt := 101) hx hb dX12_worked_97 (by decide) ?_
      exact hJ20 1 H locs ls (by decide) (by decide) hP hD hS (lv_sub hl [0, 1, 2] rfl)
  by_cases c22 : v0 = 7
  · skip
    have fc22 : v0.toInt = 7 := congrArg Int32.toInt c22
    refine lv_tableIn (off := 101) (tgt := 102) hx hb dX12_worked_1 (by rw [c22]; decide) (by rw [c22]; decide) (by rw [c22]; rfl) (by decide) ?_
    refine lv_lload_n hx hb dX12_worked_102 rfl (lv_at hl 1 rfl) ?_
    refine lv_lload_n hx hb dX12_worked_103 rfl (lv_at hl 2 rfl) ?_
    refine W.lcmp hx hb dX12_worked_104 ?_
    refine lv_topi (fun t23 et23 => ?_)
    have hJ25 : ∀ (x24 : Int32) (H : Heap) (locs : List Loc) (ls : Array Slot), 0 ≤ x24.toInt → x24.toInt ≤ 1 → va_P (dC, dI) vwCl [] H → va_D A [] → va_S A s.heap H locs → lv_has ls 5 [(0, .int v0), (1, .long w1), (3, .long w2)] → W p l e ({ frames := 2, cells := 0, slots := 0, locals := 38 }) s m ([.int v0, .long w1, .long w2] : List Value).toArray below meth c H locs 0 0 Q (F0 m 113 ls [.int x24]) := by
      intro x24 H locs ls qa_x24 qb_x24 hP hD hS hl
      subst hQ
      have hP9 := hP.sub (ws' := []) [] rfl
      have hD9 := hD.sub (ws' := []) [] (by decide) rfl
      have hK9 := hK.sub (tys' := []) [] rfl
      exact W.iret (v := x24) hx hb hr (fun t ht hW => ⟨⟨x24, x24, rfl, rfl, ⟨by rw [ht]; exact hP9, va_K.moved hW.alike hK9, hD9⟩⟩, hS.F ht⟩) hS.2.2 dX12_worked_113
    refine lv_if_ge (tgt := 112) hx hb dX12_worked_105 (by decide) (fun c26 => ?_) (fun c26 => ?_)
    · skip
      have fc26 : 0 ≤ t23.toInt := Int32.le_iff_toInt_le.mp c26
      refine lv_iconst (v := 0) hx hb dX12_worked_112 (by decide) ?_
      exact hJ25 0 H locs ls (by decide) (by decide) hP hD hS (lv_sub hl [0, 1, 2] rfl)
    · skip
      have fc26 : ¬ (0 ≤ t23.toInt) := fun h9 => c26 (Int32.le_iff_toInt_le.mpr h9)
      refine lv_iconst (v := 1) hx hb dX12_worked_108 (by decide) ?_
      refine lv_goto (tgt := 113) hx hb dX12_worked_109 (by decide) ?_
      exact hJ25 1 H locs ls (by decide) (by decide) hP hD hS (lv_sub hl [0, 1, 2] rfl)
  by_cases c27 : v0 = 8
  · skip
    have fc27 : v0.toInt = 8 := congrArg Int32.toInt c27
    refine lv_tableIn (off := 113) (tgt := 114) hx hb dX12_worked_1 (by rw [c27]; decide) (by rw [c27]; decide) (by rw [c27]; rfl) (by decide) ?_
    refine lv_lload_n hx hb dX12_worked_114 rfl (lv_at hl 1 rfl) ?_
    refine lv_lload_n hx hb dX12_worked_115 rfl (lv_at hl 2 rfl) ?_
    refine W.lcmp hx hb dX12_worked_116 ?_
    refine lv_topi (fun t28 et28 => ?_)
    have hJ30 : ∀ (x29 : Int32) (H : Heap) (locs : List Loc) (ls : Array Slot), 0 ≤ x29.toInt → x29.toInt ≤ 1 → va_P (dC, dI) vwCl [] H → va_D A [] → va_S A s.heap H locs → lv_has ls 5 [(0, .int v0), (1, .long w1), (3, .long w2)] → W p l e ({ frames := 2, cells := 0, slots := 0, locals := 38 }) s m ([.int v0, .long w1, .long w2] : List Value).toArray below meth c H locs 0 0 Q (F0 m 125 ls [.int x29]) := by
      intro x29 H locs ls qa_x29 qb_x29 hP hD hS hl
      subst hQ
      have hP9 := hP.sub (ws' := []) [] rfl
      have hD9 := hD.sub (ws' := []) [] (by decide) rfl
      have hK9 := hK.sub (tys' := []) [] rfl
      exact W.iret (v := x29) hx hb hr (fun t ht hW => ⟨⟨x29, x29, rfl, rfl, ⟨by rw [ht]; exact hP9, va_K.moved hW.alike hK9, hD9⟩⟩, hS.F ht⟩) hS.2.2 dX12_worked_125
    refine lv_if_le (tgt := 124) hx hb dX12_worked_117 (by decide) (fun c31 => ?_) (fun c31 => ?_)
    · skip
      have fc31 : t28.toInt ≤ 0 := Int32.le_iff_toInt_le.mp c31
      refine lv_iconst (v := 0) hx hb dX12_worked_124 (by decide) ?_
      exact hJ30 0 H locs ls (by decide) (by decide) hP hD hS (lv_sub hl [0, 1, 2] rfl)
    · skip
      have fc31 : ¬ (t28.toInt ≤ 0) := fun h9 => c31 (Int32.le_iff_toInt_le.mpr h9)
      refine lv_iconst (v := 1) hx hb dX12_worked_120 (by decide) ?_
      refine lv_goto (tgt := 125) hx hb dX12_worked_121 (by decide) ?_
      exact hJ30 1 H locs ls (by decide) (by decide) hP hD hS (lv_sub hl [0, 1, 2] rfl)
  by_cases c32 : v0 = 9
  · skip
    have fc32 : v0.toInt = 9 := congrArg Int32.toInt c32
    refine lv_tableIn (off := 143) (tgt := 144) hx hb dX12_worked_1 (by rw [c32]; decide) (by rw [c32]; decide) (by rw [c32]; rfl) (by decide) ?_
    refine lv_lload_n hx hb dX12_worked_144 rfl (lv_at hl 1 rfl) ?_
    refine lv_lconst (v := 0) hx hb dX12_worked_145 (by decide) ?_
    refine W.lcmp hx hb dX12_worked_146 ?_
    refine lv_topi (fun t33 et33 => ?_)
    have hJ35 : ∀ (x34 : Int32) (H : Heap) (locs : List Loc) (ls : Array Slot), 0 ≤ x34.toInt → x34.toInt ≤ 1 → va_P (dC, dI) vwCl [] H → va_D A [] → va_S A s.heap H locs → lv_has ls 5 [(0, .int v0), (1, .long w1), (3, .long w2)] → W p l e ({ frames := 2, cells := 0, slots := 0, locals := 38 }) s m ([.int v0, .long w1, .long w2] : List Value).toArray below meth c H locs 0 0 Q (F0 m 161 ls [.int x34]) := by
      intro x34 H locs ls qa_x34 qb_x34 hP hD hS hl
      subst hQ
      have hP9 := hP.sub (ws' := []) [] rfl
      have hD9 := hD.sub (ws' := []) [] (by decide) rfl
      have hK9 := hK.sub (tys' := []) [] rfl
      exact W.iret (v := x34) hx hb hr (fun t ht hW => ⟨⟨x34, x34, rfl, rfl, ⟨by rw [ht]; exact hP9, va_K.moved hW.alike hK9, hD9⟩⟩, hS.F ht⟩) hS.2.2 dX12_worked_161
    refine lv_if_ne (tgt := 156) hx hb dX12_worked_147 (by decide) (fun c36 => ?_) (fun c36 => ?_)
    · skip
      have fc36 : ¬ (t33.toInt = 0) := fun h9 => c36 (Int32.toInt_inj.mp h9)
      have zc36 : ¬ w1 = 0 := pv_lne et33 c36
      refine lv_iconst (v := 1) hx hb dX12_worked_156 (by decide) ?_
      refine lv_goto (tgt := 161) hx hb dX12_worked_157 (by decide) ?_
      exact hJ35 1 H locs ls (by decide) (by decide) hP hD hS (lv_sub hl [0, 1, 2] rfl)
    · skip
      have fc36 : t33.toInt = 0 := congrArg Int32.toInt c36
      refine lv_lload_n hx hb dX12_worked_150 rfl (lv_at hl 2 rfl) ?_
      refine lv_lconst (v := 0) hx hb dX12_worked_151 (by decide) ?_
      refine W.lcmp hx hb dX12_worked_152 ?_
      refine lv_topi (fun t37 et37 => ?_)
      refine lv_if_eq (tgt := 160) hx hb dX12_worked_153 (by decide) (fun c38 => ?_) (fun c38 => ?_)
      · skip
        have fc38 : t37.toInt = 0 := congrArg Int32.toInt c38
        refine lv_iconst (v := 0) hx hb dX12_worked_160 (by decide) ?_
        exact hJ35 0 H locs ls (by decide) (by decide) hP hD hS (lv_sub hl [0, 1, 2] rfl)
      · skip
        have fc38 : ¬ (t37.toInt = 0) := fun h9 => c38 (Int32.toInt_inj.mp h9)
        have zc38 : ¬ w2 = 0 := pv_lne et37 c38
        refine lv_iconst (v := 1) hx hb dX12_worked_156 (by decide) ?_
        refine lv_goto (tgt := 161) hx hb dX12_worked_157 (by decide) ?_
        exact hJ35 1 H locs ls (by decide) (by decide) hP hD hS (lv_sub hl [0, 1, 2] rfl)
  by_cases c39 : v0 = 10
  · skip
    have fc39 : v0.toInt = 10 := congrArg Int32.toInt c39
    refine lv_tableIn (off := 125) (tgt := 126) hx hb dX12_worked_1 (by rw [c39]; decide) (by rw [c39]; decide) (by rw [c39]; rfl) (by decide) ?_
    refine lv_lload_n hx hb dX12_worked_126 rfl (lv_at hl 1 rfl) ?_
    refine lv_lconst (v := 0) hx hb dX12_worked_127 (by decide) ?_
    refine W.lcmp hx hb dX12_worked_128 ?_
    refine lv_topi (fun t40 et40 => ?_)
    have hJ42 : ∀ (x41 : Int32) (H : Heap) (locs : List Loc) (ls : Array Slot), 0 ≤ x41.toInt → x41.toInt ≤ 1 → va_P (dC, dI) vwCl [] H → va_D A [] → va_S A s.heap H locs → lv_has ls 5 [(0, .int v0), (1, .long w1), (3, .long w2)] → W p l e ({ frames := 2, cells := 0, slots := 0, locals := 38 }) s m ([.int v0, .long w1, .long w2] : List Value).toArray below meth c H locs 0 0 Q (F0 m 143 ls [.int x41]) := by
      intro x41 H locs ls qa_x41 qb_x41 hP hD hS hl
      subst hQ
      have hP9 := hP.sub (ws' := []) [] rfl
      have hD9 := hD.sub (ws' := []) [] (by decide) rfl
      have hK9 := hK.sub (tys' := []) [] rfl
      exact W.iret (v := x41) hx hb hr (fun t ht hW => ⟨⟨x41, x41, rfl, rfl, ⟨by rw [ht]; exact hP9, va_K.moved hW.alike hK9, hD9⟩⟩, hS.F ht⟩) hS.2.2 dX12_worked_143
    refine lv_if_eq (tgt := 142) hx hb dX12_worked_129 (by decide) (fun c43 => ?_) (fun c43 => ?_)
    · skip
      have fc43 : t40.toInt = 0 := congrArg Int32.toInt c43
      refine lv_iconst (v := 0) hx hb dX12_worked_142 (by decide) ?_
      exact hJ42 0 H locs ls (by decide) (by decide) hP hD hS (lv_sub hl [0, 1, 2] rfl)
    · skip
      have fc43 : ¬ (t40.toInt = 0) := fun h9 => c43 (Int32.toInt_inj.mp h9)
      have zc43 : ¬ w1 = 0 := pv_lne et40 c43
      refine lv_lload_n hx hb dX12_worked_132 rfl (lv_at hl 2 rfl) ?_
      refine lv_lconst (v := 0) hx hb dX12_worked_133 (by decide) ?_
      refine W.lcmp hx hb dX12_worked_134 ?_
      refine lv_topi (fun t44 et44 => ?_)
      refine lv_if_eq (tgt := 142) hx hb dX12_worked_135 (by decide) (fun c45 => ?_) (fun c45 => ?_)
      · skip
        have fc45 : t44.toInt = 0 := congrArg Int32.toInt c45
        refine lv_iconst (v := 0) hx hb dX12_worked_142 (by decide) ?_
        exact hJ42 0 H locs ls (by decide) (by decide) hP hD hS (lv_sub hl [0, 1, 2] rfl)
      · skip
        have fc45 : ¬ (t44.toInt = 0) := fun h9 => c45 (Int32.toInt_inj.mp h9)
        have zc45 : ¬ w2 = 0 := pv_lne et44 c45
        refine lv_iconst (v := 1) hx hb dX12_worked_138 (by decide) ?_
        refine lv_goto (tgt := 143) hx hb dX12_worked_139 (by decide) ?_
        exact hJ42 1 H locs ls (by decide) (by decide) hP hD hS (lv_sub hl [0, 1, 2] rfl)
  refine lv_tableOut (tgt := 144) hx hb dX12_worked_1 (pv_tabL 2 8 rfl (fun j hj => by rcases (show j = 0 ∨ j = 1 ∨ j = 2 ∨ j = 3 ∨ j = 4 ∨ j = 5 ∨ j = 6 ∨ j = 7 ∨ j = 8 by omega) with rfl | rfl | rfl | rfl | rfl | rfl | rfl | rfl | rfl <;> assumption)) (by decide) ?_
  refine lv_lload_n hx hb dX12_worked_144 rfl (lv_at hl 1 rfl) ?_
  refine lv_lconst (v := 0) hx hb dX12_worked_145 (by decide) ?_
  refine W.lcmp hx hb dX12_worked_146 ?_
  refine lv_topi (fun t46 et46 => ?_)
  have hJ48 : ∀ (x47 : Int32) (H : Heap) (locs : List Loc) (ls : Array Slot), 0 ≤ x47.toInt → x47.toInt ≤ 1 → va_P (dC, dI) vwCl [] H → va_D A [] → va_S A s.heap H locs → lv_has ls 5 [(0, .int v0), (1, .long w1), (3, .long w2)] → W p l e ({ frames := 2, cells := 0, slots := 0, locals := 38 }) s m ([.int v0, .long w1, .long w2] : List Value).toArray below meth c H locs 0 0 Q (F0 m 161 ls [.int x47]) := by
    intro x47 H locs ls qa_x47 qb_x47 hP hD hS hl
    subst hQ
    have hP9 := hP.sub (ws' := []) [] rfl
    have hD9 := hD.sub (ws' := []) [] (by decide) rfl
    have hK9 := hK.sub (tys' := []) [] rfl
    exact W.iret (v := x47) hx hb hr (fun t ht hW => ⟨⟨x47, x47, rfl, rfl, ⟨by rw [ht]; exact hP9, va_K.moved hW.alike hK9, hD9⟩⟩, hS.F ht⟩) hS.2.2 dX12_worked_161
  refine lv_if_ne (tgt := 156) hx hb dX12_worked_147 (by decide) (fun c49 => ?_) (fun c49 => ?_)
  · skip
    have fc49 : ¬ (t46.toInt = 0) := fun h9 => c49 (Int32.toInt_inj.mp h9)
    have zc49 : ¬ w1 = 0 := pv_lne et46 c49
    refine lv_iconst (v := 1) hx hb dX12_worked_156 (by decide) ?_
    refine lv_goto (tgt := 161) hx hb dX12_worked_157 (by decide) ?_
    exact hJ48 1 H locs ls (by decide) (by decide) hP hD hS (lv_sub hl [0, 1, 2] rfl)
  · skip
    have fc49 : t46.toInt = 0 := congrArg Int32.toInt c49
    refine lv_lload_n hx hb dX12_worked_150 rfl (lv_at hl 2 rfl) ?_
    refine lv_lconst (v := 0) hx hb dX12_worked_151 (by decide) ?_
    refine W.lcmp hx hb dX12_worked_152 ?_
    refine lv_topi (fun t50 et50 => ?_)
    refine lv_if_eq (tgt := 160) hx hb dX12_worked_153 (by decide) (fun c51 => ?_) (fun c51 => ?_)
    · skip
      have fc51 : t50.toInt = 0 := congrArg Int32.toInt c51
      refine lv_iconst (v := 0) hx hb dX12_worked_160 (by decide) ?_
      exact hJ48 0 H locs ls (by decide) (by decide) hP hD hS (lv_sub hl [0, 1, 2] rfl)
    · skip
      have fc51 : ¬ (t50.toInt = 0) := fun h9 => c51 (Int32.toInt_inj.mp h9)
      have zc51 : ¬ w2 = 0 := pv_lne et50 c51
      refine lv_iconst (v := 1) hx hb dX12_worked_156 (by decide) ?_
      refine lv_goto (tgt := 161) hx hb dX12_worked_157 (by decide) ?_
      exact hJ48 1 H locs ls (by decide) (by decide) hP hD hS (lv_sub hl [0, 1, 2] rfl)
def q_X12_isDigit : List Cond := .code yX12_isDigit cX12_isDigit 1 (some .boolean) :: (([] : List Cond))
set_option maxHeartbeats 4000000 in
set_option maxRecDepth 100000 in
theorem k_X12_isDigit (l : Launch) (dC : Nat → ClassId) (dI : Nat → Nat → Nat) (v0 : Int32) (sz : Nat) : Met l yX12_isDigit q_X12_isDigit ({ frames := 0, cells := 0, slots := 0, locals := 0 }) (va_Pc [.int v0] (fun U => U.heap.size = sz ∧ va_P (dC, dI) vwCl [] U.heap ∧ va_K (dC, dI) vwCl [] U ∧ va_D (fun _ => True) [])) (va_Qi (fun (r : Int32) (r9 : Int32) => r9 = r) (fun (r : Int32) (t : State) => ((0 ≤ r.toInt) ∧ (r.toInt ≤ 1) ∧ ((r.toInt = 1 → 48 ≤ v0.toInt)) ∧ ((r.toInt = 1 → v0.toInt ≤ 57)) ∧ (r.toInt = 0 → ¬ (48 ≤ v0.toInt ∧ v0.toInt ≤ 57)) ∧ va_P (dC, dI) vwCl [] t.heap ∧ va_K (dC, dI) vwCl [] t ∧ va_D (va_A [] sz) [])) (va_A [] sz)) 0 0 (va_A [] sz) := by
  refine Met.ofW (cc := cX12_isDigit) (maxL := 1) (ret := (some .boolean)) (by decide) rfl ?_
  intro p e s m args below meth c s₁ B hml hv
  obtain ⟨rfl, hsz, hP, hK, hD0⟩ := hv
  have hx := B.exec
  have hb := B.bytes
  have hr := B.returns
  have hts := atoms_spec (ws := q_X12_isDigit) B.pre
  have hown : s.vm.findClass RX12 = some m.cls := findClass_of_methodNamed B.named
  have hlocks := B.notSynchronized
  subst hsz
  have hD := hD0.self (sz := s.heap.size)
  generalize hAe : va_A [] s.heap.size = A at hD ⊢
  have hA : ∀ q : Nat, s.heap.size ≤ q → A q := fun q h => by rw [← hAe]; exact Or.inr h
  have hS : va_S A s.heap s.heap [] := va_S.rf
  generalize hQ : (MQ below _ _ s 0 0 A) = Q
  have hl := lv_entry ([.int v0]) (n := 1) (Nat.le_of_ble_eq_true rfl)
  rw [lg_entry_eq]
  generalize (lg_sl ([.int v0]) ++ List.replicate (1 - (lg_sl ([.int v0])).length) Slot.unset).toArray = ls at hl ⊢
  have hl : lv_has ls 1 [(0, .int v0)] := hl
  obtain ⟨H, hH⟩ : ∃ H : Heap, H = s.heap := ⟨_, rfl⟩
  obtain ⟨locs, hlocs⟩ : ∃ y : List Loc, y = [] := ⟨_, rfl⟩
  have hS : va_S A s.heap H locs := by rw [hH, hlocs]; exact va_S.rf
  have hP : va_P (dC, dI) vwCl [] H := by rw [hH]; exact hP
  rw [← hH, ← hlocs]
  refine lv_iload_n hx hb dX12_isDigit_0 rfl (lv_at hl 0 rfl) ?_
  refine lv_bipush (v := 48) hx hb dX12_isDigit_1 (by decide) ?_
  refine lv_icmp_lt (tgt := 16) hx hb dX12_isDigit_3 (by decide) (fun c1 => ?_) (fun c1 => ?_)
  · skip
    have fc1 : v0.toInt < 48 := Int32.lt_iff_toInt_lt.mp c1
    refine lv_iconst (v := 0) hx hb dX12_isDigit_16 (by decide) ?_
    subst hQ
    have hP9 := hP.sub (ws' := []) [] rfl
    have hD9 := hD.sub (ws' := []) [] (by decide) rfl
    have hK9 := hK.sub (tys' := []) [] rfl
    exact W.zret (v := 0) hx hb hr rfl (fun t ht hW => ⟨⟨0, 0, rfl, rfl, ⟨by first | omega | decide, by first | omega | decide, fun h9 => absurd h9 (by decide), fun h9 => absurd h9 (by decide), fun _ => by omega, by rw [ht]; exact hP9, va_K.moved hW.alike hK9, hD9⟩⟩, hS.F ht⟩) hS.2.2 dX12_isDigit_17
  · skip
    have fc1 : ¬ (v0.toInt < 48) := fun h9 => c1 (Int32.lt_iff_toInt_lt.mpr h9)
    refine lv_iload_n hx hb dX12_isDigit_6 rfl (lv_at hl 0 rfl) ?_
    refine lv_bipush (v := 57) hx hb dX12_isDigit_7 (by decide) ?_
    refine lv_icmp_gt (tgt := 16) hx hb dX12_isDigit_9 (by decide) (fun c2 => ?_) (fun c2 => ?_)
    · skip
      have fc2 : 57 < v0.toInt := Int32.lt_iff_toInt_lt.mp c2
      refine lv_iconst (v := 0) hx hb dX12_isDigit_16 (by decide) ?_
      subst hQ
      have hP9 := hP.sub (ws' := []) [] rfl
      have hD9 := hD.sub (ws' := []) [] (by decide) rfl
      have hK9 := hK.sub (tys' := []) [] rfl
      exact W.zret (v := 0) hx hb hr rfl (fun t ht hW => ⟨⟨0, 0, rfl, rfl, ⟨by first | omega | decide, by first | omega | decide, fun h9 => absurd h9 (by decide), fun h9 => absurd h9 (by decide), fun _ => by omega, by rw [ht]; exact hP9, va_K.moved hW.alike hK9, hD9⟩⟩, hS.F ht⟩) hS.2.2 dX12_isDigit_17
    · skip
      have fc2 : ¬ (57 < v0.toInt) := fun h9 => c2 (Int32.lt_iff_toInt_lt.mpr h9)
      refine lv_iconst (v := 1) hx hb dX12_isDigit_12 (by decide) ?_
      refine lv_goto (tgt := 17) hx hb dX12_isDigit_13 (by decide) ?_
      subst hQ
      have hP9 := hP.sub (ws' := []) [] rfl
      have hD9 := hD.sub (ws' := []) [] (by decide) rfl
      have hK9 := hK.sub (tys' := []) [] rfl
      exact W.zret (v := 1) hx hb hr rfl (fun t ht hW => ⟨⟨1, 1, rfl, rfl, ⟨by first | omega | decide, by first | omega | decide, fun _ => by omega, fun _ => by omega, fun h9 => absurd h9 (by decide), by rw [ht]; exact hP9, va_K.moved hW.alike hK9, hD9⟩⟩, hS.F ht⟩) hS.2.2 dX12_isDigit_17
def q_X12_isSign : List Cond := .code yX12_isSign cX12_isSign 1 (some .boolean) :: (([] : List Cond))
set_option maxHeartbeats 4000000 in
set_option maxRecDepth 100000 in
theorem k_X12_isSign (l : Launch) (dC : Nat → ClassId) (dI : Nat → Nat → Nat) (v0 : Int32) (sz : Nat) : Met l yX12_isSign q_X12_isSign ({ frames := 0, cells := 0, slots := 0, locals := 0 }) (va_Pc [.int v0] (fun U => U.heap.size = sz ∧ va_P (dC, dI) vwCl [] U.heap ∧ va_K (dC, dI) vwCl [] U ∧ va_D (fun _ => True) [])) (va_Qi (fun (r : Int32) (r9 : Int32) => r9 = r) (fun (r : Int32) (t : State) => ((0 ≤ r.toInt) ∧ (r.toInt ≤ 1) ∧ ((r.toInt = 1 → 60 ≤ v0.toInt)) ∧ ((r.toInt = 1 → v0.toInt ≤ 62)) ∧ (r.toInt = 0 → ¬ (60 ≤ v0.toInt ∧ v0.toInt ≤ 62)) ∧ va_P (dC, dI) vwCl [] t.heap ∧ va_K (dC, dI) vwCl [] t ∧ va_D (va_A [] sz) [])) (va_A [] sz)) 0 0 (va_A [] sz) := by
  refine Met.ofW (cc := cX12_isSign) (maxL := 1) (ret := (some .boolean)) (by decide) rfl ?_
  intro p e s m args below meth c s₁ B hml hv
  obtain ⟨rfl, hsz, hP, hK, hD0⟩ := hv
  have hx := B.exec
  have hb := B.bytes
  have hr := B.returns
  have hts := atoms_spec (ws := q_X12_isSign) B.pre
  have hown : s.vm.findClass RX12 = some m.cls := findClass_of_methodNamed B.named
  have hlocks := B.notSynchronized
  subst hsz
  have hD := hD0.self (sz := s.heap.size)
  generalize hAe : va_A [] s.heap.size = A at hD ⊢
  have hA : ∀ q : Nat, s.heap.size ≤ q → A q := fun q h => by rw [← hAe]; exact Or.inr h
  have hS : va_S A s.heap s.heap [] := va_S.rf
  generalize hQ : (MQ below _ _ s 0 0 A) = Q
  have hl := lv_entry ([.int v0]) (n := 1) (Nat.le_of_ble_eq_true rfl)
  rw [lg_entry_eq]
  generalize (lg_sl ([.int v0]) ++ List.replicate (1 - (lg_sl ([.int v0])).length) Slot.unset).toArray = ls at hl ⊢
  have hl : lv_has ls 1 [(0, .int v0)] := hl
  obtain ⟨H, hH⟩ : ∃ H : Heap, H = s.heap := ⟨_, rfl⟩
  obtain ⟨locs, hlocs⟩ : ∃ y : List Loc, y = [] := ⟨_, rfl⟩
  have hS : va_S A s.heap H locs := by rw [hH, hlocs]; exact va_S.rf
  have hP : va_P (dC, dI) vwCl [] H := by rw [hH]; exact hP
  rw [← hH, ← hlocs]
  refine lv_iload_n hx hb dX12_isSign_0 rfl (lv_at hl 0 rfl) ?_
  refine lv_bipush (v := 61) hx hb dX12_isSign_1 (by decide) ?_
  refine lv_icmp_eq (tgt := 18) hx hb dX12_isSign_3 (by decide) (fun c1 => ?_) (fun c1 => ?_)
  · skip
    have fc1 : v0.toInt = 61 := congrArg Int32.toInt c1
    refine lv_iconst (v := 1) hx hb dX12_isSign_18 (by decide) ?_
    refine lv_goto (tgt := 23) hx hb dX12_isSign_19 (by decide) ?_
    subst hQ
    have hP9 := hP.sub (ws' := []) [] rfl
    have hD9 := hD.sub (ws' := []) [] (by decide) rfl
    have hK9 := hK.sub (tys' := []) [] rfl
    exact W.zret (v := 1) hx hb hr rfl (fun t ht hW => ⟨⟨1, 1, rfl, rfl, ⟨by first | omega | decide, by first | omega | decide, fun _ => by omega, fun _ => by omega, fun h9 => absurd h9 (by decide), by rw [ht]; exact hP9, va_K.moved hW.alike hK9, hD9⟩⟩, hS.F ht⟩) hS.2.2 dX12_isSign_23
  · skip
    have fc1 : ¬ (v0.toInt = 61) := fun h9 => c1 (Int32.toInt_inj.mp h9)
    refine lv_iload_n hx hb dX12_isSign_6 rfl (lv_at hl 0 rfl) ?_
    refine lv_bipush (v := 60) hx hb dX12_isSign_7 (by decide) ?_
    refine lv_icmp_eq (tgt := 18) hx hb dX12_isSign_9 (by decide) (fun c2 => ?_) (fun c2 => ?_)
    · skip
      have fc2 : v0.toInt = 60 := congrArg Int32.toInt c2
      refine lv_iconst (v := 1) hx hb dX12_isSign_18 (by decide) ?_
      refine lv_goto (tgt := 23) hx hb dX12_isSign_19 (by decide) ?_
      subst hQ
      have hP9 := hP.sub (ws' := []) [] rfl
      have hD9 := hD.sub (ws' := []) [] (by decide) rfl
      have hK9 := hK.sub (tys' := []) [] rfl
      exact W.zret (v := 1) hx hb hr rfl (fun t ht hW => ⟨⟨1, 1, rfl, rfl, ⟨by first | omega | decide, by first | omega | decide, fun _ => by omega, fun _ => by omega, fun h9 => absurd h9 (by decide), by rw [ht]; exact hP9, va_K.moved hW.alike hK9, hD9⟩⟩, hS.F ht⟩) hS.2.2 dX12_isSign_23
    · skip
      have fc2 : ¬ (v0.toInt = 60) := fun h9 => c2 (Int32.toInt_inj.mp h9)
      refine lv_iload_n hx hb dX12_isSign_12 rfl (lv_at hl 0 rfl) ?_
      refine lv_bipush (v := 62) hx hb dX12_isSign_13 (by decide) ?_
      refine lv_icmp_ne (tgt := 22) hx hb dX12_isSign_15 (by decide) (fun c3 => ?_) (fun c3 => ?_)
      · skip
        have fc3 : ¬ (v0.toInt = 62) := fun h9 => c3 (Int32.toInt_inj.mp h9)
        refine lv_iconst (v := 0) hx hb dX12_isSign_22 (by decide) ?_
        subst hQ
        have hP9 := hP.sub (ws' := []) [] rfl
        have hD9 := hD.sub (ws' := []) [] (by decide) rfl
        have hK9 := hK.sub (tys' := []) [] rfl
        exact W.zret (v := 0) hx hb hr rfl (fun t ht hW => ⟨⟨0, 0, rfl, rfl, ⟨by first | omega | decide, by first | omega | decide, fun h9 => absurd h9 (by decide), fun h9 => absurd h9 (by decide), fun _ => by omega, by rw [ht]; exact hP9, va_K.moved hW.alike hK9, hD9⟩⟩, hS.F ht⟩) hS.2.2 dX12_isSign_23
      · skip
        have fc3 : v0.toInt = 62 := congrArg Int32.toInt c3
        refine lv_iconst (v := 1) hx hb dX12_isSign_18 (by decide) ?_
        refine lv_goto (tgt := 23) hx hb dX12_isSign_19 (by decide) ?_
        subst hQ
        have hP9 := hP.sub (ws' := []) [] rfl
        have hD9 := hD.sub (ws' := []) [] (by decide) rfl
        have hK9 := hK.sub (tys' := []) [] rfl
        exact W.zret (v := 1) hx hb hr rfl (fun t ht hW => ⟨⟨1, 1, rfl, rfl, ⟨by first | omega | decide, by first | omega | decide, fun _ => by omega, fun _ => by omega, fun h9 => absurd h9 (by decide), by rw [ht]; exact hP9, va_K.moved hW.alike hK9, hD9⟩⟩, hS.F ht⟩) hS.2.2 dX12_isSign_23
def q_X12_letterOf : List Cond := .code yX12_letterOf cX12_letterOf 1 (some .int) :: (([] : List Cond))
set_option maxHeartbeats 4000000 in
set_option maxRecDepth 100000 in
theorem k_X12_letterOf (l : Launch) (dC : Nat → ClassId) (dI : Nat → Nat → Nat) (v0 : Int32) (sz : Nat) : Met l yX12_letterOf q_X12_letterOf ({ frames := 0, cells := 0, slots := 0, locals := 0 }) (va_Pc [.int v0] (fun U => U.heap.size = sz ∧ va_P (dC, dI) vwCl [] U.heap ∧ va_K (dC, dI) vwCl [] U ∧ va_D (fun _ => True) [])) (va_Qi (fun (r : Int32) (r9 : Int32) => r9 = r) (fun (r : Int32) (t : State) => ((-1 ≤ r.toInt) ∧ (r.toInt ≤ 5) ∧ (r.toInt = pm_lt v0.toInt) ∧ (¬ r.toInt = -1 → 97 ≤ v0.toInt ∧ v0.toInt ≤ 122) ∧ va_P (dC, dI) vwCl [] t.heap ∧ va_K (dC, dI) vwCl [] t ∧ va_D (va_A [] sz) [])) (va_A [] sz)) 0 0 (va_A [] sz) := by
  refine Met.ofW (cc := cX12_letterOf) (maxL := 1) (ret := (some .int)) (by decide) rfl ?_
  intro p e s m args below meth c s₁ B hml hv
  obtain ⟨rfl, hsz, hP, hK, hD0⟩ := hv
  have hx := B.exec
  have hb := B.bytes
  have hr := B.returns
  have hts := atoms_spec (ws := q_X12_letterOf) B.pre
  have hown : s.vm.findClass RX12 = some m.cls := findClass_of_methodNamed B.named
  have hlocks := B.notSynchronized
  subst hsz
  have hD := hD0.self (sz := s.heap.size)
  generalize hAe : va_A [] s.heap.size = A at hD ⊢
  have hA : ∀ q : Nat, s.heap.size ≤ q → A q := fun q h => by rw [← hAe]; exact Or.inr h
  have hS : va_S A s.heap s.heap [] := va_S.rf
  generalize hQ : (MQ below _ _ s 0 0 A) = Q
  have hl := lv_entry ([.int v0]) (n := 1) (Nat.le_of_ble_eq_true rfl)
  rw [lg_entry_eq]
  generalize (lg_sl ([.int v0]) ++ List.replicate (1 - (lg_sl ([.int v0])).length) Slot.unset).toArray = ls at hl ⊢
  have hl : lv_has ls 1 [(0, .int v0)] := hl
  obtain ⟨H, hH⟩ : ∃ H : Heap, H = s.heap := ⟨_, rfl⟩
  obtain ⟨locs, hlocs⟩ : ∃ y : List Loc, y = [] := ⟨_, rfl⟩
  have hS : va_S A s.heap H locs := by rw [hH, hlocs]; exact va_S.rf
  have hP : va_P (dC, dI) vwCl [] H := by rw [hH]; exact hP
  rw [← hH, ← hlocs]
  refine lv_iload_n hx hb dX12_letterOf_0 rfl (lv_at hl 0 rfl) ?_
  refine lv_bipush (v := 122) hx hb dX12_letterOf_1 (by decide) ?_
  refine lv_icmp_ne (tgt := 10) hx hb dX12_letterOf_3 (by decide) (fun c1 => ?_) (fun c1 => ?_)
  · skip
    have fc1 : ¬ (v0.toInt = 122) := fun h9 => c1 (Int32.toInt_inj.mp h9)
    refine lv_iload_n hx hb dX12_letterOf_10 rfl (lv_at hl 0 rfl) ?_
    refine lv_bipush (v := 97) hx hb dX12_letterOf_11 (by decide) ?_
    refine lv_icmp_ne (tgt := 20) hx hb dX12_letterOf_13 (by decide) (fun c2 => ?_) (fun c2 => ?_)
    · skip
      have fc2 : ¬ (v0.toInt = 97) := fun h9 => c2 (Int32.toInt_inj.mp h9)
      refine lv_iload_n hx hb dX12_letterOf_20 rfl (lv_at hl 0 rfl) ?_
      refine lv_bipush (v := 111) hx hb dX12_letterOf_21 (by decide) ?_
      refine lv_icmp_ne (tgt := 30) hx hb dX12_letterOf_23 (by decide) (fun c3 => ?_) (fun c3 => ?_)
      · skip
        have fc3 : ¬ (v0.toInt = 111) := fun h9 => c3 (Int32.toInt_inj.mp h9)
        refine lv_iload_n hx hb dX12_letterOf_30 rfl (lv_at hl 0 rfl) ?_
        refine lv_bipush (v := 110) hx hb dX12_letterOf_31 (by decide) ?_
        refine lv_icmp_ne (tgt := 40) hx hb dX12_letterOf_33 (by decide) (fun c4 => ?_) (fun c4 => ?_)
        · skip
          have fc4 : ¬ (v0.toInt = 110) := fun h9 => c4 (Int32.toInt_inj.mp h9)
          refine lv_iload_n hx hb dX12_letterOf_40 rfl (lv_at hl 0 rfl) ?_
          refine lv_bipush (v := 100) hx hb dX12_letterOf_41 (by decide) ?_
          refine lv_icmp_ne (tgt := 50) hx hb dX12_letterOf_43 (by decide) (fun c5 => ?_) (fun c5 => ?_)
          · skip
            have fc5 : ¬ (v0.toInt = 100) := fun h9 => c5 (Int32.toInt_inj.mp h9)
            refine lv_iload_n hx hb dX12_letterOf_50 rfl (lv_at hl 0 rfl) ?_
            refine lv_bipush (v := 116) hx hb dX12_letterOf_51 (by decide) ?_
            refine lv_icmp_ne (tgt := 60) hx hb dX12_letterOf_53 (by decide) (fun c6 => ?_) (fun c6 => ?_)
            · skip
              have fc6 : ¬ (v0.toInt = 116) := fun h9 => c6 (Int32.toInt_inj.mp h9)
              refine lv_iconst (v := (-1)) hx hb dX12_letterOf_60 (by decide) ?_
              subst hQ
              have hP9 := hP.sub (ws' := []) [] rfl
              have hD9 := hD.sub (ws' := []) [] (by decide) rfl
              have hK9 := hK.sub (tys' := []) [] rfl
              exact W.iret (v := (-1)) hx hb hr (fun t ht hW => ⟨⟨(-1), (-1), rfl, rfl, ⟨by first | omega | decide, by first | omega | decide, by unfold pm_lt; (repeat' split) <;> first | omega | decide, fun h9 => absurd (by decide) h9, by rw [ht]; exact hP9, va_K.moved hW.alike hK9, hD9⟩⟩, hS.F ht⟩) hS.2.2 dX12_letterOf_61
            · skip
              have fc6 : v0.toInt = 116 := congrArg Int32.toInt c6
              refine lv_iconst (v := 5) hx hb dX12_letterOf_56 (by decide) ?_
              refine lv_goto (tgt := 61) hx hb dX12_letterOf_57 (by decide) ?_
              subst hQ
              have hP9 := hP.sub (ws' := []) [] rfl
              have hD9 := hD.sub (ws' := []) [] (by decide) rfl
              have hK9 := hK.sub (tys' := []) [] rfl
              exact W.iret (v := 5) hx hb hr (fun t ht hW => ⟨⟨5, 5, rfl, rfl, ⟨by first | omega | decide, by first | omega | decide, by unfold pm_lt; (repeat' split) <;> first | omega | decide, fun _ => by constructor <;> omega, by rw [ht]; exact hP9, va_K.moved hW.alike hK9, hD9⟩⟩, hS.F ht⟩) hS.2.2 dX12_letterOf_61
          · skip
            have fc5 : v0.toInt = 100 := congrArg Int32.toInt c5
            refine lv_iconst (v := 4) hx hb dX12_letterOf_46 (by decide) ?_
            refine lv_goto (tgt := 61) hx hb dX12_letterOf_47 (by decide) ?_
            subst hQ
            have hP9 := hP.sub (ws' := []) [] rfl
            have hD9 := hD.sub (ws' := []) [] (by decide) rfl
            have hK9 := hK.sub (tys' := []) [] rfl
            exact W.iret (v := 4) hx hb hr (fun t ht hW => ⟨⟨4, 4, rfl, rfl, ⟨by first | omega | decide, by first | omega | decide, by unfold pm_lt; (repeat' split) <;> first | omega | decide, fun _ => by constructor <;> omega, by rw [ht]; exact hP9, va_K.moved hW.alike hK9, hD9⟩⟩, hS.F ht⟩) hS.2.2 dX12_letterOf_61
        · skip
          have fc4 : v0.toInt = 110 := congrArg Int32.toInt c4
          refine lv_iconst (v := 3) hx hb dX12_letterOf_36 (by decide) ?_
          refine lv_goto (tgt := 61) hx hb dX12_letterOf_37 (by decide) ?_
          subst hQ
          have hP9 := hP.sub (ws' := []) [] rfl
          have hD9 := hD.sub (ws' := []) [] (by decide) rfl
          have hK9 := hK.sub (tys' := []) [] rfl
          exact W.iret (v := 3) hx hb hr (fun t ht hW => ⟨⟨3, 3, rfl, rfl, ⟨by first | omega | decide, by first | omega | decide, by unfold pm_lt; (repeat' split) <;> first | omega | decide, fun _ => by constructor <;> omega, by rw [ht]; exact hP9, va_K.moved hW.alike hK9, hD9⟩⟩, hS.F ht⟩) hS.2.2 dX12_letterOf_61
      · skip
        have fc3 : v0.toInt = 111 := congrArg Int32.toInt c3
        refine lv_iconst (v := 2) hx hb dX12_letterOf_26 (by decide) ?_
        refine lv_goto (tgt := 61) hx hb dX12_letterOf_27 (by decide) ?_
        subst hQ
        have hP9 := hP.sub (ws' := []) [] rfl
        have hD9 := hD.sub (ws' := []) [] (by decide) rfl
        have hK9 := hK.sub (tys' := []) [] rfl
        exact W.iret (v := 2) hx hb hr (fun t ht hW => ⟨⟨2, 2, rfl, rfl, ⟨by first | omega | decide, by first | omega | decide, by unfold pm_lt; (repeat' split) <;> first | omega | decide, fun _ => by constructor <;> omega, by rw [ht]; exact hP9, va_K.moved hW.alike hK9, hD9⟩⟩, hS.F ht⟩) hS.2.2 dX12_letterOf_61
    · skip
      have fc2 : v0.toInt = 97 := congrArg Int32.toInt c2
      refine lv_iconst (v := 1) hx hb dX12_letterOf_16 (by decide) ?_
      refine lv_goto (tgt := 61) hx hb dX12_letterOf_17 (by decide) ?_
      subst hQ
      have hP9 := hP.sub (ws' := []) [] rfl
      have hD9 := hD.sub (ws' := []) [] (by decide) rfl
      have hK9 := hK.sub (tys' := []) [] rfl
      exact W.iret (v := 1) hx hb hr (fun t ht hW => ⟨⟨1, 1, rfl, rfl, ⟨by first | omega | decide, by first | omega | decide, by unfold pm_lt; (repeat' split) <;> first | omega | decide, fun _ => by constructor <;> omega, by rw [ht]; exact hP9, va_K.moved hW.alike hK9, hD9⟩⟩, hS.F ht⟩) hS.2.2 dX12_letterOf_61
  · skip
    have fc1 : v0.toInt = 122 := congrArg Int32.toInt c1
    refine lv_iconst (v := 0) hx hb dX12_letterOf_6 (by decide) ?_
    refine lv_goto (tgt := 61) hx hb dX12_letterOf_7 (by decide) ?_
    subst hQ
    have hP9 := hP.sub (ws' := []) [] rfl
    have hD9 := hD.sub (ws' := []) [] (by decide) rfl
    have hK9 := hK.sub (tys' := []) [] rfl
    exact W.iret (v := 0) hx hb hr (fun t ht hW => ⟨⟨0, 0, rfl, rfl, ⟨by first | omega | decide, by first | omega | decide, by unfold pm_lt; (repeat' split) <;> first | omega | decide, fun _ => by constructor <;> omega, by rw [ht]; exact hP9, va_K.moved hW.alike hK9, hD9⟩⟩, hS.F ht⟩) hS.2.2 dX12_letterOf_61
def q_X12_byteOf : List Cond := .code yX12_byteOf cX12_byteOf 7 (some .int) :: (([] : List Cond))
set_option maxHeartbeats 4000000 in
set_option maxRecDepth 100000 in
theorem k_X12_byteOf (l : Launch) (dC : Nat → ClassId) (dI : Nat → Nat → Nat) (v0 : Int32) (v1 : Int32) (v2 : Int32) (v3 : Int32) (v4 : Int32) (v5 : Int32) (sz : Nat) : Met l yX12_byteOf q_X12_byteOf ({ frames := 0, cells := 0, slots := 0, locals := 0 }) (va_Pc [.int v0, .int v1, .int v2, .int v3, .int v4, .int v5] (fun U => U.heap.size = sz ∧ va_P (dC, dI) vwCl [] U.heap ∧ va_K (dC, dI) vwCl [] U ∧ va_D (fun _ => True) [])) (va_Qi (fun (r : Int32) (r9 : Int32) => r9 = r) (fun (r : Int32) (t : State) => ((0 ≤ r.toInt) ∧ (r.toInt ≤ 255) ∧ (r = pm_by v0 v1 v2 v3 v4 v5) ∧ va_P (dC, dI) vwCl [] t.heap ∧ va_K (dC, dI) vwCl [] t ∧ va_D (va_A [] sz) [])) (va_A [] sz)) 0 0 (va_A [] sz) := by
  refine Met.ofW (cc := cX12_byteOf) (maxL := 7) (ret := (some .int)) (by decide) rfl ?_
  intro p e s m args below meth c s₁ B hml hv
  obtain ⟨rfl, hsz, hP, hK, hD0⟩ := hv
  have hx := B.exec
  have hb := B.bytes
  have hr := B.returns
  have hts := atoms_spec (ws := q_X12_byteOf) B.pre
  have hown : s.vm.findClass RX12 = some m.cls := findClass_of_methodNamed B.named
  have hlocks := B.notSynchronized
  subst hsz
  have hD := hD0.self (sz := s.heap.size)
  generalize hAe : va_A [] s.heap.size = A at hD ⊢
  have hA : ∀ q : Nat, s.heap.size ≤ q → A q := fun q h => by rw [← hAe]; exact Or.inr h
  have hS : va_S A s.heap s.heap [] := va_S.rf
  generalize hQ : (MQ below _ _ s 0 0 A) = Q
  have hl := lv_entry ([.int v0, .int v1, .int v2, .int v3, .int v4, .int v5]) (n := 7) (Nat.le_of_ble_eq_true rfl)
  rw [lg_entry_eq]
  generalize (lg_sl ([.int v0, .int v1, .int v2, .int v3, .int v4, .int v5]) ++ List.replicate (7 - (lg_sl ([.int v0, .int v1, .int v2, .int v3, .int v4, .int v5])).length) Slot.unset).toArray = ls at hl ⊢
  have hl : lv_has ls 7 [(0, .int v0), (1, .int v1), (2, .int v2), (3, .int v3), (4, .int v4), (5, .int v5)] := hl
  obtain ⟨H, hH⟩ : ∃ H : Heap, H = s.heap := ⟨_, rfl⟩
  obtain ⟨locs, hlocs⟩ : ∃ y : List Loc, y = [] := ⟨_, rfl⟩
  have hS : va_S A s.heap H locs := by rw [hH, hlocs]; exact va_S.rf
  have hP : va_P (dC, dI) vwCl [] H := by rw [hH]; exact hP
  rw [← hH, ← hlocs]
  refine lv_iload hx hb dX12_byteOf_0 (lv_at hl 5 rfl) ?_
  refine lv_iconst (v := 4) hx hb dX12_byteOf_2 (by decide) ?_
  refine lv_icmp_ge (tgt := 10) hx hb dX12_byteOf_3 (by decide) (fun c1 => ?_) (fun c1 => ?_)
  · skip
    have fc1 : 4 ≤ v5.toInt := Int32.le_iff_toInt_le.mp c1
    refine lv_iload hx hb dX12_byteOf_10 (lv_at hl 5 rfl) ?_
    refine lv_bipush (v := 8) hx hb dX12_byteOf_12 (by decide) ?_
    refine lv_icmp_ge (tgt := 21) hx hb dX12_byteOf_14 (by decide) (fun c2 => ?_) (fun c2 => ?_)
    · skip
      have fc2 : 8 ≤ v5.toInt := Int32.le_iff_toInt_le.mp c2
      refine lv_iload hx hb dX12_byteOf_21 (lv_at hl 5 rfl) ?_
      refine lv_bipush (v := 12) hx hb dX12_byteOf_23 (by decide) ?_
      refine lv_icmp_ge (tgt := 32) hx hb dX12_byteOf_25 (by decide) (fun c3 => ?_) (fun c3 => ?_)
      · skip
        have fc3 : 12 ≤ v5.toInt := Int32.le_iff_toInt_le.mp c3
        refine lv_iload hx hb dX12_byteOf_32 (lv_at hl 5 rfl) ?_
        refine lv_bipush (v := 16) hx hb dX12_byteOf_34 (by decide) ?_
        refine lv_icmp_ge (tgt := 43) hx hb dX12_byteOf_36 (by decide) (fun c4 => ?_) (fun c4 => ?_)
        · skip
          have fc4 : 16 ≤ v5.toInt := Int32.le_iff_toInt_le.mp c4
          refine lv_iload hx hb dX12_byteOf_43 (lv_at hl 4 rfl) ?_
          refine lv_istore (lv' := [(6, .int v4), (0, .int v0), (1, .int v1), (2, .int v2), (3, .int v3), (4, .int v4), (5, .int v5)]) hx hb dX12_byteOf_45 hl (by decide) rfl (fun ls hl => ?_)
          refine lv_iload hx hb dX12_byteOf_47 (lv_at hl 0 rfl) ?_
          refine lv_bipush (v := 24) hx hb dX12_byteOf_49 (by decide) ?_
          refine lv_bipush (v := 8) hx hb dX12_byteOf_51 (by decide) ?_
          refine lv_iload hx hb dX12_byteOf_53 (lv_at hl 6 rfl) ?_
          refine lv_iconst (v := 4) hx hb dX12_byteOf_55 (by decide) ?_
          refine lv_irem hx hb dX12_byteOf_56 (by decide) ?_
          refine lv_topi (fun t5 et5 => ?_)
          have gt5 : 0 ≤ t5.toInt ∧ t5.toInt < 4 := pv_rem et5 (by omega) (by decide) (by decide)
          refine lv_imul hx hb dX12_byteOf_57 ?_
          refine lv_topi (fun t6 et6 => ?_)
          have gt6 : t6.toInt = 8 * t5.toInt := pv_mul (a := 8) (b := t5.toInt) et6 (by decide) rfl (by omega) (by omega)
          refine lv_isub hx hb dX12_byteOf_58 ?_
          refine lv_topi (fun t7 et7 => ?_)
          have gt7 : t7.toInt = 24 - t6.toInt := pv_sub (a := 24) (b := t6.toInt) et7 (by decide) rfl (by omega) (by omega)
          refine lv_ishr hx hb dX12_byteOf_59 ?_
          refine lv_topi (fun t8 et8 => ?_)
          refine lv_sipush (v := 255) hx hb dX12_byteOf_60 (by decide) ?_
          refine lv_iand hx hb dX12_byteOf_63 ?_
          refine lv_topi (fun t9 et9 => ?_)
          have gt9 : 0 ≤ t9.toInt ∧ t9.toInt ≤ 255 := pv_andR et9 (by decide) (by decide)
          subst hQ
          have hP9 := hP.sub (ws' := []) [] rfl
          have hD9 := hD.sub (ws' := []) [] (by decide) rfl
          have hK9 := hK.sub (tys' := []) [] rfl
          exact W.iret (v := t9) hx hb hr (fun t ht hW => ⟨⟨t9, t9, rfl, rfl, ⟨by first | omega | decide, by first | omega | decide, by unfold pm_by; (repeat' split) <;> first | (exfalso; omega) | (subst_vars; rfl), by rw [ht]; exact hP9, va_K.moved hW.alike hK9, hD9⟩⟩, hS.F ht⟩) hS.2.2 dX12_byteOf_64
        · skip
          have fc4 : ¬ (16 ≤ v5.toInt) := fun h9 => c4 (Int32.le_iff_toInt_le.mpr h9)
          refine lv_iload_n hx hb dX12_byteOf_39 rfl (lv_at hl 3 rfl) ?_
          refine lv_goto (tgt := 45) hx hb dX12_byteOf_40 (by decide) ?_
          refine lv_istore (lv' := [(6, .int v3), (0, .int v0), (1, .int v1), (2, .int v2), (3, .int v3), (4, .int v4), (5, .int v5)]) hx hb dX12_byteOf_45 hl (by decide) rfl (fun ls hl => ?_)
          refine lv_iload hx hb dX12_byteOf_47 (lv_at hl 0 rfl) ?_
          refine lv_bipush (v := 24) hx hb dX12_byteOf_49 (by decide) ?_
          refine lv_bipush (v := 8) hx hb dX12_byteOf_51 (by decide) ?_
          refine lv_iload hx hb dX12_byteOf_53 (lv_at hl 6 rfl) ?_
          refine lv_iconst (v := 4) hx hb dX12_byteOf_55 (by decide) ?_
          refine lv_irem hx hb dX12_byteOf_56 (by decide) ?_
          refine lv_topi (fun t10 et10 => ?_)
          have gt10 : 0 ≤ t10.toInt ∧ t10.toInt < 4 := pv_rem et10 (by omega) (by decide) (by decide)
          refine lv_imul hx hb dX12_byteOf_57 ?_
          refine lv_topi (fun t11 et11 => ?_)
          have gt11 : t11.toInt = 8 * t10.toInt := pv_mul (a := 8) (b := t10.toInt) et11 (by decide) rfl (by omega) (by omega)
          refine lv_isub hx hb dX12_byteOf_58 ?_
          refine lv_topi (fun t12 et12 => ?_)
          have gt12 : t12.toInt = 24 - t11.toInt := pv_sub (a := 24) (b := t11.toInt) et12 (by decide) rfl (by omega) (by omega)
          refine lv_ishr hx hb dX12_byteOf_59 ?_
          refine lv_topi (fun t13 et13 => ?_)
          refine lv_sipush (v := 255) hx hb dX12_byteOf_60 (by decide) ?_
          refine lv_iand hx hb dX12_byteOf_63 ?_
          refine lv_topi (fun t14 et14 => ?_)
          have gt14 : 0 ≤ t14.toInt ∧ t14.toInt ≤ 255 := pv_andR et14 (by decide) (by decide)
          subst hQ
          have hP9 := hP.sub (ws' := []) [] rfl
          have hD9 := hD.sub (ws' := []) [] (by decide) rfl
          have hK9 := hK.sub (tys' := []) [] rfl
          exact W.iret (v := t14) hx hb hr (fun t ht hW => ⟨⟨t14, t14, rfl, rfl, ⟨by first | omega | decide, by first | omega | decide, by unfold pm_by; (repeat' split) <;> first | (exfalso; omega) | (subst_vars; rfl), by rw [ht]; exact hP9, va_K.moved hW.alike hK9, hD9⟩⟩, hS.F ht⟩) hS.2.2 dX12_byteOf_64
      · skip
        have fc3 : ¬ (12 ≤ v5.toInt) := fun h9 => c3 (Int32.le_iff_toInt_le.mpr h9)
        refine lv_iload_n hx hb dX12_byteOf_28 rfl (lv_at hl 2 rfl) ?_
        refine lv_goto (tgt := 45) hx hb dX12_byteOf_29 (by decide) ?_
        refine lv_istore (lv' := [(6, .int v2), (0, .int v0), (1, .int v1), (2, .int v2), (3, .int v3), (4, .int v4), (5, .int v5)]) hx hb dX12_byteOf_45 hl (by decide) rfl (fun ls hl => ?_)
        refine lv_iload hx hb dX12_byteOf_47 (lv_at hl 0 rfl) ?_
        refine lv_bipush (v := 24) hx hb dX12_byteOf_49 (by decide) ?_
        refine lv_bipush (v := 8) hx hb dX12_byteOf_51 (by decide) ?_
        refine lv_iload hx hb dX12_byteOf_53 (lv_at hl 6 rfl) ?_
        refine lv_iconst (v := 4) hx hb dX12_byteOf_55 (by decide) ?_
        refine lv_irem hx hb dX12_byteOf_56 (by decide) ?_
        refine lv_topi (fun t15 et15 => ?_)
        have gt15 : 0 ≤ t15.toInt ∧ t15.toInt < 4 := pv_rem et15 (by omega) (by decide) (by decide)
        refine lv_imul hx hb dX12_byteOf_57 ?_
        refine lv_topi (fun t16 et16 => ?_)
        have gt16 : t16.toInt = 8 * t15.toInt := pv_mul (a := 8) (b := t15.toInt) et16 (by decide) rfl (by omega) (by omega)
        refine lv_isub hx hb dX12_byteOf_58 ?_
        refine lv_topi (fun t17 et17 => ?_)
        have gt17 : t17.toInt = 24 - t16.toInt := pv_sub (a := 24) (b := t16.toInt) et17 (by decide) rfl (by omega) (by omega)
        refine lv_ishr hx hb dX12_byteOf_59 ?_
        refine lv_topi (fun t18 et18 => ?_)
        refine lv_sipush (v := 255) hx hb dX12_byteOf_60 (by decide) ?_
        refine lv_iand hx hb dX12_byteOf_63 ?_
        refine lv_topi (fun t19 et19 => ?_)
        have gt19 : 0 ≤ t19.toInt ∧ t19.toInt ≤ 255 := pv_andR et19 (by decide) (by decide)
        subst hQ
        have hP9 := hP.sub (ws' := []) [] rfl
        have hD9 := hD.sub (ws' := []) [] (by decide) rfl
        have hK9 := hK.sub (tys' := []) [] rfl
        exact W.iret (v := t19) hx hb hr (fun t ht hW => ⟨⟨t19, t19, rfl, rfl, ⟨by first | omega | decide, by first | omega | decide, by unfold pm_by; (repeat' split) <;> first | (exfalso; omega) | (subst_vars; rfl), by rw [ht]; exact hP9, va_K.moved hW.alike hK9, hD9⟩⟩, hS.F ht⟩) hS.2.2 dX12_byteOf_64
    · skip
      have fc2 : ¬ (8 ≤ v5.toInt) := fun h9 => c2 (Int32.le_iff_toInt_le.mpr h9)
      refine lv_iload_n hx hb dX12_byteOf_17 rfl (lv_at hl 1 rfl) ?_
      refine lv_goto (tgt := 45) hx hb dX12_byteOf_18 (by decide) ?_
      refine lv_istore (lv' := [(6, .int v1), (0, .int v0), (1, .int v1), (2, .int v2), (3, .int v3), (4, .int v4), (5, .int v5)]) hx hb dX12_byteOf_45 hl (by decide) rfl (fun ls hl => ?_)
      refine lv_iload hx hb dX12_byteOf_47 (lv_at hl 0 rfl) ?_
      refine lv_bipush (v := 24) hx hb dX12_byteOf_49 (by decide) ?_
      refine lv_bipush (v := 8) hx hb dX12_byteOf_51 (by decide) ?_
      refine lv_iload hx hb dX12_byteOf_53 (lv_at hl 6 rfl) ?_
      refine lv_iconst (v := 4) hx hb dX12_byteOf_55 (by decide) ?_
      refine lv_irem hx hb dX12_byteOf_56 (by decide) ?_
      refine lv_topi (fun t20 et20 => ?_)
      have gt20 : 0 ≤ t20.toInt ∧ t20.toInt < 4 := pv_rem et20 (by omega) (by decide) (by decide)
      refine lv_imul hx hb dX12_byteOf_57 ?_
      refine lv_topi (fun t21 et21 => ?_)
      have gt21 : t21.toInt = 8 * t20.toInt := pv_mul (a := 8) (b := t20.toInt) et21 (by decide) rfl (by omega) (by omega)
      refine lv_isub hx hb dX12_byteOf_58 ?_
      refine lv_topi (fun t22 et22 => ?_)
      have gt22 : t22.toInt = 24 - t21.toInt := pv_sub (a := 24) (b := t21.toInt) et22 (by decide) rfl (by omega) (by omega)
      refine lv_ishr hx hb dX12_byteOf_59 ?_
      refine lv_topi (fun t23 et23 => ?_)
      refine lv_sipush (v := 255) hx hb dX12_byteOf_60 (by decide) ?_
      refine lv_iand hx hb dX12_byteOf_63 ?_
      refine lv_topi (fun t24 et24 => ?_)
      have gt24 : 0 ≤ t24.toInt ∧ t24.toInt ≤ 255 := pv_andR et24 (by decide) (by decide)
      subst hQ
      have hP9 := hP.sub (ws' := []) [] rfl
      have hD9 := hD.sub (ws' := []) [] (by decide) rfl
      have hK9 := hK.sub (tys' := []) [] rfl
      exact W.iret (v := t24) hx hb hr (fun t ht hW => ⟨⟨t24, t24, rfl, rfl, ⟨by first | omega | decide, by first | omega | decide, by unfold pm_by; (repeat' split) <;> first | (exfalso; omega) | (subst_vars; rfl), by rw [ht]; exact hP9, va_K.moved hW.alike hK9, hD9⟩⟩, hS.F ht⟩) hS.2.2 dX12_byteOf_64
  · skip
    have fc1 : ¬ (4 ≤ v5.toInt) := fun h9 => c1 (Int32.le_iff_toInt_le.mpr h9)
    refine lv_iload_n hx hb dX12_byteOf_6 rfl (lv_at hl 0 rfl) ?_
    refine lv_goto (tgt := 45) hx hb dX12_byteOf_7 (by decide) ?_
    refine lv_istore (lv' := [(6, .int v0), (0, .int v0), (1, .int v1), (2, .int v2), (3, .int v3), (4, .int v4), (5, .int v5)]) hx hb dX12_byteOf_45 hl (by decide) rfl (fun ls hl => ?_)
    refine lv_iload hx hb dX12_byteOf_47 (lv_at hl 0 rfl) ?_
    refine lv_bipush (v := 24) hx hb dX12_byteOf_49 (by decide) ?_
    refine lv_bipush (v := 8) hx hb dX12_byteOf_51 (by decide) ?_
    refine lv_iload hx hb dX12_byteOf_53 (lv_at hl 6 rfl) ?_
    refine lv_iconst (v := 4) hx hb dX12_byteOf_55 (by decide) ?_
    refine lv_irem hx hb dX12_byteOf_56 (by decide) ?_
    refine lv_topi (fun t25 et25 => ?_)
    obtain ⟨gat25, gbt25, gct25, gdt25⟩ := pv_rm4 et25 (by decide)
    refine lv_imul hx hb dX12_byteOf_57 ?_
    refine lv_topi (fun t26 et26 => ?_)
    have gt26 : t26.toInt = 8 * t25.toInt := pv_mul (a := 8) (b := t25.toInt) et26 (by decide) rfl (by omega) (by omega)
    refine lv_isub hx hb dX12_byteOf_58 ?_
    refine lv_topi (fun t27 et27 => ?_)
    have gt27 : t27.toInt = 24 - t26.toInt := pv_sub (a := 24) (b := t26.toInt) et27 (by decide) rfl (by omega) (by omega)
    refine lv_ishr hx hb dX12_byteOf_59 ?_
    refine lv_topi (fun t28 et28 => ?_)
    refine lv_sipush (v := 255) hx hb dX12_byteOf_60 (by decide) ?_
    refine lv_iand hx hb dX12_byteOf_63 ?_
    refine lv_topi (fun t29 et29 => ?_)
    have gt29 : 0 ≤ t29.toInt ∧ t29.toInt ≤ 255 := pv_andR et29 (by decide) (by decide)
    subst hQ
    have hP9 := hP.sub (ws' := []) [] rfl
    have hD9 := hD.sub (ws' := []) [] (by decide) rfl
    have hK9 := hK.sub (tys' := []) [] rfl
    exact W.iret (v := t29) hx hb hr (fun t ht hW => ⟨⟨t29, t29, rfl, rfl, ⟨by first | omega | decide, by first | omega | decide, by unfold pm_by; (repeat' split) <;> first | (exfalso; omega) | (subst_vars; rfl), by rw [ht]; exact hP9, va_K.moved hW.alike hK9, hD9⟩⟩, hS.F ht⟩) hS.2.2 dX12_byteOf_64
def q_X12_end : List Cond := .code yX12_end cX12_end 2 (some .boolean) :: (([.fieldLink RX12 109 "LeftArgumentsModel" "size" "I"] : List Cond) ++ wsX120)
set_option maxHeartbeats 4000000 in
set_option maxRecDepth 100000 in
theorem k_X12_end (l : Launch) (dC : Nat → ClassId) (dI : Nat → Nat → Nat) (h0 : Nat) (v0 : Int32) (r0 : Nat) (v1 : Int32) (v2 : Int32) (v3 : Int32) (v4 : Int32) (r1 : Nat) (r2 : Nat) (r3 : Nat) (r4 : Nat) (r5 : Nat) (r6 : Nat) (r7 : Nat) (v5 : Int32) (v6 : Int32) (r8 : Nat) (r9 : Nat) (r10 : Nat) (r11 : Nat) (v7 : Int32) (r12 : Nat) (r13 : Nat) (v8 : Int32) (v9 : Int32) (r14 : Nat) (r15 : Nat) (v10 : Int32) (v11 : Int32) (r16 : Nat) (v12 : Int32) (v13 : Int32) (r17 : Nat) (v14 : Int32) (w15 : Int64) (r18 : Nat) (v16 : Int32) (v17 : Int32) (r19 : Nat) (r20 : Nat) (r21 : Nat) (r22 : Nat) (r23 : Nat) (r24 : Nat) (v18 : Int32) (r25 : Nat) (r26 : Nat) (r27 : Nat) (v19 : Int32) (v20 : Int32) (i_v1 : 0 ≤ v1.toInt ∧ v1.toInt ≤ 240) (i_v5 : 0 ≤ v5.toInt ∧ v5.toInt ≤ 4) (i_v6 : 0 ≤ v6.toInt ∧ v6.toInt ≤ 4) (i_v7 : 0 ≤ v7.toInt ∧ v7.toInt ≤ 8) (i_v8 : 0 ≤ v8.toInt ∧ v8.toInt ≤ 8) (i_v9 : 0 ≤ v9.toInt ∧ v9.toInt ≤ 1) (i_v10 : -1 ≤ v10.toInt ∧ v10.toInt ≤ 3) (i_v14 : 0 ≤ v14.toInt ∧ v14.toInt ≤ 40) (i_v18 : 0 ≤ v18.toInt ∧ v18.toInt ≤ 10) (i_v19 : 0 ≤ v19.toInt ∧ v19.toInt ≤ 1) (sz : Nat) : Met l yX12_end q_X12_end ({ frames := 0, cells := 0, slots := 0, locals := 0 }) (va_Pc [.ref h0, .int v20] (fun U => U.heap.size = sz ∧ va_P (dC, dI) vwCl (wd_171f232f h0 v0 r0 v1 v2 v3 v4 r1 r2 r3 r4 r5 r6 r7 v5 v6 r8 r9 r10 r11 v7 r12 r13 v8 v9 r14 r15 v10 v11 r16 v12 v13 r17 v14 w15 r18 v16 v17 r19 r20 r21 r22 r23 r24 v18 r25 r26 r27 v19) U.heap ∧ va_K (dC, dI) vwCl [] U ∧ va_D (fun _ => True) (wd_171f232f h0 v0 r0 v1 v2 v3 v4 r1 r2 r3 r4 r5 r6 r7 v5 v6 r8 r9 r10 r11 v7 r12 r13 v8 v9 r14 r15 v10 v11 r16 v12 v13 r17 v14 w15 r18 v16 v17 r19 r20 r21 r22 r23 r24 v18 r25 r26 r27 v19))) (va_Qi (fun (r : Int32) (r9 : Int32) => r9 = r) (fun (r : Int32) (t : State) => (∃ (o_h0_2 : Int32), 0 ≤ o_h0_2.toInt ∧ o_h0_2.toInt ≤ 240 ∧ (0 ≤ r.toInt) ∧ (r.toInt ≤ 1) ∧ ((r.toInt = 1 ∧ 0 ≤ v20.toInt ∧ v20.toInt ≤ v1.toInt ∧ o_h0_2.toInt = v20.toInt) ∨ (r.toInt = 0 ∧ ¬ (0 ≤ v20.toInt ∧ v20.toInt ≤ v1.toInt) ∧ o_h0_2.toInt = v1.toInt)) ∧ va_P (dC, dI) vwCl (wd_171f232f h0 v0 r0 o_h0_2 v2 v3 v4 r1 r2 r3 r4 r5 r6 r7 v5 v6 r8 r9 r10 r11 v7 r12 r13 v8 v9 r14 r15 v10 v11 r16 v12 v13 r17 v14 w15 r18 v16 v17 r19 r20 r21 r22 r23 r24 v18 r25 r26 r27 v19) t.heap ∧ va_K (dC, dI) vwCl [] t ∧ va_D (va_A (wd_171f232f h0 v0 r0 v1 v2 v3 v4 r1 r2 r3 r4 r5 r6 r7 v5 v6 r8 r9 r10 r11 v7 r12 r13 v8 v9 r14 r15 v10 v11 r16 v12 v13 r17 v14 w15 r18 v16 v17 r19 r20 r21 r22 r23 r24 v18 r25 r26 r27 v19) sz) (wd_171f232f h0 v0 r0 o_h0_2 v2 v3 v4 r1 r2 r3 r4 r5 r6 r7 v5 v6 r8 r9 r10 r11 v7 r12 r13 v8 v9 r14 r15 v10 v11 r16 v12 v13 r17 v14 w15 r18 v16 v17 r19 r20 r21 r22 r23 r24 v18 r25 r26 r27 v19))) (va_A (wd_171f232f h0 v0 r0 v1 v2 v3 v4 r1 r2 r3 r4 r5 r6 r7 v5 v6 r8 r9 r10 r11 v7 r12 r13 v8 v9 r14 r15 v10 v11 r16 v12 v13 r17 v14 w15 r18 v16 v17 r19 r20 r21 r22 r23 r24 v18 r25 r26 r27 v19) sz)) 0 0 (va_A (wd_171f232f h0 v0 r0 v1 v2 v3 v4 r1 r2 r3 r4 r5 r6 r7 v5 v6 r8 r9 r10 r11 v7 r12 r13 v8 v9 r14 r15 v10 v11 r16 v12 v13 r17 v14 w15 r18 v16 v17 r19 r20 r21 r22 r23 r24 v18 r25 r26 r27 v19) sz) := by
  refine Met.ofW (cc := cX12_end) (maxL := 2) (ret := (some .boolean)) (by decide) rfl ?_
  intro p e s m args below meth c s₁ B hml hv
  obtain ⟨i_v1a, i_v1b⟩ := i_v1
  obtain ⟨i_v5a, i_v5b⟩ := i_v5
  obtain ⟨i_v6a, i_v6b⟩ := i_v6
  obtain ⟨i_v7a, i_v7b⟩ := i_v7
  obtain ⟨i_v8a, i_v8b⟩ := i_v8
  obtain ⟨i_v9a, i_v9b⟩ := i_v9
  obtain ⟨i_v10a, i_v10b⟩ := i_v10
  obtain ⟨i_v14a, i_v14b⟩ := i_v14
  obtain ⟨i_v18a, i_v18b⟩ := i_v18
  obtain ⟨i_v19a, i_v19b⟩ := i_v19
  obtain ⟨rfl, hsz, hP, hK, hD0⟩ := hv
  have hx := B.exec
  have hb := B.bytes
  have hr := B.returns
  have hts := atoms_spec (ws := q_X12_end) B.pre
  have hown : s.vm.findClass RX12 = some m.cls := findClass_of_methodNamed B.named
  have hlocks := B.notSynchronized
  subst hsz
  have hD := hD0.self (sz := s.heap.size)
  generalize hAe : va_A (wd_171f232f h0 v0 r0 v1 v2 v3 v4 r1 r2 r3 r4 r5 r6 r7 v5 v6 r8 r9 r10 r11 v7 r12 r13 v8 v9 r14 r15 v10 v11 r16 v12 v13 r17 v14 w15 r18 v16 v17 r19 r20 r21 r22 r23 r24 v18 r25 r26 r27 v19) s.heap.size = A at hD ⊢
  have hA : ∀ q : Nat, s.heap.size ≤ q → A q := fun q h => by rw [← hAe]; exact Or.inr h
  have hS : va_S A s.heap s.heap [] := va_S.rf
  generalize hQ : (MQ below _ _ s 0 0 A) = Q
  have hl := lv_entry ([.ref h0, .int v20]) (n := 2) (Nat.le_of_ble_eq_true rfl)
  rw [lg_entry_eq]
  generalize (lg_sl ([.ref h0, .int v20]) ++ List.replicate (2 - (lg_sl ([.ref h0, .int v20])).length) Slot.unset).toArray = ls at hl ⊢
  have hl : lv_has ls 2 [(0, .ref h0), (1, .int v20)] := hl
  obtain ⟨H, hH⟩ : ∃ H : Heap, H = s.heap := ⟨_, rfl⟩
  obtain ⟨locs, hlocs⟩ : ∃ y : List Loc, y = [] := ⟨_, rfl⟩
  have hS : va_S A s.heap H locs := by rw [hH, hlocs]; exact va_S.rf
  have hP : va_P (dC, dI) vwCl (wd_171f232f h0 v0 r0 v1 v2 v3 v4 r1 r2 r3 r4 r5 r6 r7 v5 v6 r8 r9 r10 r11 v7 r12 r13 v8 v9 r14 r15 v10 v11 r16 v12 v13 r17 v14 w15 r18 v16 v17 r19 r20 r21 r22 r23 r24 v18 r25 r26 r27 v19) H := by rw [hH]; exact hP
  rw [← hH, ← hlocs]
  refine lv_iload_n hx hb dX12_end_0 rfl (lv_at hl 1 rfl) ?_
  refine lv_if_lt (tgt := 12) hx hb dX12_end_1 (by decide) (fun c1 => ?_) (fun c1 => ?_)
  · skip
    have fc1 : v20.toInt < 0 := Int32.lt_iff_toInt_lt.mp c1
    refine lv_iconst (v := 0) hx hb dX12_end_12 (by decide) ?_
    subst hQ
    have hP9 := hP.sub (ws' := (wd_171f232f h0 v0 r0 v1 v2 v3 v4 r1 r2 r3 r4 r5 r6 r7 v5 v6 r8 r9 r10 r11 v7 r12 r13 v8 v9 r14 r15 v10 v11 r16 v12 v13 r17 v14 w15 r18 v16 v17 r19 r20 r21 r22 r23 r24 v18 r25 r26 r27 v19)) [0] rfl
    have hD9 := hD.sub (ws' := (wd_171f232f h0 v0 r0 v1 v2 v3 v4 r1 r2 r3 r4 r5 r6 r7 v5 v6 r8 r9 r10 r11 v7 r12 r13 v8 v9 r14 r15 v10 v11 r16 v12 v13 r17 v14 w15 r18 v16 v17 r19 r20 r21 r22 r23 r24 v18 r25 r26 r27 v19)) [0] (by decide) rfl
    have hK9 := hK.sub (tys' := []) [] rfl
    exact W.zret (v := 0) hx hb hr rfl (fun t ht hW => ⟨⟨0, 0, rfl, rfl, ⟨v1, i_v1a, i_v1b, by first | omega | decide, by first | omega | decide, by first | exact Or.inl ⟨by decide, by omega, by omega, by omega⟩ | exact Or.inr ⟨by decide, by omega, by omega⟩, by rw [ht]; exact hP9, va_K.moved hW.alike hK9, hD9⟩⟩, hS.F ht⟩) hS.2.2 dX12_end_13
  · skip
    have fc1 : ¬ (v20.toInt < 0) := fun h9 => c1 (Int32.lt_iff_toInt_lt.mpr h9)
    refine lv_iload_n hx hb dX12_end_4 rfl (lv_at hl 1 rfl) ?_
    refine lv_aload_n hx hb dX12_end_5 rfl (lv_at hl 0 rfl) ?_
    refine va_get (D := (dC, dI)) (ci := 12) (v := .int v1) (C := RX12) (T := TX12) (N := 48) hx hb hts (fun _ h => List.mem_cons_of_mem _ (List.mem_append_right _ h)) hown hK hP 0 rfl rfl 2 (by decide) (hts (.fieldLink RX12 109 "LeftArgumentsModel" "size" "I") (List.mem_cons_of_mem _ (List.mem_append_left _ (List.mem_of_getElem? (i := 0) rfl)))) (fun _ h9 => h9) rfl dX12_end_6 ?_
    refine lv_icmp_le (tgt := 14) hx hb dX12_end_9 (by decide) (fun c2 => ?_) (fun c2 => ?_)
    · skip
      have fc2 : v20.toInt ≤ v1.toInt := Int32.le_iff_toInt_le.mp c2
      have r1c2 := Int32.toInt_lt v20
      have r2c2 := Int32.toInt_lt v1
      have r3c2 := Int32.le_toInt v20
      have r4c2 := Int32.le_toInt v1
      refine lv_aload_n hx hb dX12_end_14 rfl (lv_at hl 0 rfl) ?_
      refine lv_iload_n hx hb dX12_end_15 rfl (lv_at hl 1 rfl) ?_
      refine va_put (D := (dC, dI)) (ci := 12) (v := .int v20) (ty := .int) (C := RX12) (T := TX12) (N := 48) hx hb hts (fun _ h => List.mem_cons_of_mem _ (List.mem_append_right _ h)) tyX12 tyX12_ok nmX12 hown hK hP hD hS 0 rfl rfl 2 (by decide) (hts (.fieldLink RX12 109 "LeftArgumentsModel" "size" "I") (List.mem_cons_of_mem _ (List.mem_append_left _ (List.mem_of_getElem? (i := 0) rfl)))) (fun _ h9 => h9) rfl (by decide +kernel) rfl rfl (Nat.le_of_ble_eq_true rfl) dX12_end_16 (fun H locs hP hD hS => ?_)
      have hP : va_P (dC, dI) vwCl (wd_171f232f h0 v0 r0 v20 v2 v3 v4 r1 r2 r3 r4 r5 r6 r7 v5 v6 r8 r9 r10 r11 v7 r12 r13 v8 v9 r14 r15 v10 v11 r16 v12 v13 r17 v14 w15 r18 v16 v17 r19 r20 r21 r22 r23 r24 v18 r25 r26 r27 v19) H := hP
      have hD : va_D A (wd_171f232f h0 v0 r0 v20 v2 v3 v4 r1 r2 r3 r4 r5 r6 r7 v5 v6 r8 r9 r10 r11 v7 r12 r13 v8 v9 r14 r15 v10 v11 r16 v12 v13 r17 v14 w15 r18 v16 v17 r19 r20 r21 r22 r23 r24 v18 r25 r26 r27 v19) := hD
      refine lv_iconst (v := 1) hx hb dX12_end_19 (by decide) ?_
      subst hQ
      have hP9 := hP.sub (ws' := (wd_171f232f h0 v0 r0 v20 v2 v3 v4 r1 r2 r3 r4 r5 r6 r7 v5 v6 r8 r9 r10 r11 v7 r12 r13 v8 v9 r14 r15 v10 v11 r16 v12 v13 r17 v14 w15 r18 v16 v17 r19 r20 r21 r22 r23 r24 v18 r25 r26 r27 v19)) [0] rfl
      have hD9 := hD.sub (ws' := (wd_171f232f h0 v0 r0 v20 v2 v3 v4 r1 r2 r3 r4 r5 r6 r7 v5 v6 r8 r9 r10 r11 v7 r12 r13 v8 v9 r14 r15 v10 v11 r16 v12 v13 r17 v14 w15 r18 v16 v17 r19 r20 r21 r22 r23 r24 v18 r25 r26 r27 v19)) [0] (by decide) rfl
      have hK9 := hK.sub (tys' := []) [] rfl
      exact W.zret (v := 1) hx hb hr rfl (fun t ht hW => ⟨⟨1, 1, rfl, rfl, ⟨v20, by first | omega | decide, by first | omega | decide, by first | omega | decide, by first | omega | decide, by first | exact Or.inl ⟨by decide, by omega, by omega, by omega⟩ | exact Or.inr ⟨by decide, by omega, by omega⟩, by rw [ht]; exact hP9, va_K.moved hW.alike hK9, hD9⟩⟩, hS.F ht⟩) hS.2.2 dX12_end_20
    · skip
      have fc2 : ¬ (v20.toInt ≤ v1.toInt) := fun h9 => c2 (Int32.le_iff_toInt_le.mpr h9)
      have r1c2 := Int32.toInt_lt v20
      have r2c2 := Int32.toInt_lt v1
      have r3c2 := Int32.le_toInt v20
      have r4c2 := Int32.le_toInt v1
      refine lv_iconst (v := 0) hx hb dX12_end_12 (by decide) ?_
      subst hQ
      have hP9 := hP.sub (ws' := (wd_171f232f h0 v0 r0 v1 v2 v3 v4 r1 r2 r3 r4 r5 r6 r7 v5 v6 r8 r9 r10 r11 v7 r12 r13 v8 v9 r14 r15 v10 v11 r16 v12 v13 r17 v14 w15 r18 v16 v17 r19 r20 r21 r22 r23 r24 v18 r25 r26 r27 v19)) [0] rfl
      have hD9 := hD.sub (ws' := (wd_171f232f h0 v0 r0 v1 v2 v3 v4 r1 r2 r3 r4 r5 r6 r7 v5 v6 r8 r9 r10 r11 v7 r12 r13 v8 v9 r14 r15 v10 v11 r16 v12 v13 r17 v14 w15 r18 v16 v17 r19 r20 r21 r22 r23 r24 v18 r25 r26 r27 v19)) [0] (by decide) rfl
      have hK9 := hK.sub (tys' := []) [] rfl
      exact W.zret (v := 0) hx hb hr rfl (fun t ht hW => ⟨⟨0, 0, rfl, rfl, ⟨v1, i_v1a, i_v1b, by first | omega | decide, by first | omega | decide, by first | exact Or.inl ⟨by decide, by omega, by omega, by omega⟩ | exact Or.inr ⟨by decide, by omega, by omega⟩, by rw [ht]; exact hP9, va_K.moved hW.alike hK9, hD9⟩⟩, hS.F ht⟩) hS.2.2 dX12_end_13
def q_X12_in_1 : List Cond := .code yX12_in cX12_in 3 (some .boolean) :: (([] : List Cond))
set_option maxHeartbeats 4000000 in
set_option maxRecDepth 100000 in
theorem k_X12_in_1 (l : Launch) (dC : Nat → ClassId) (dI : Nat → Nat → Nat) (v0 : Int32) (v1 : Int32) (sz : Nat) : Met l yX12_in q_X12_in_1 ({ frames := 0, cells := 0, slots := 0, locals := 0 }) (va_Pc [.int v0, .int 0, .int v1] (fun U => U.heap.size = sz ∧ va_P (dC, dI) vwCl [] U.heap ∧ va_K (dC, dI) vwCl [] U ∧ va_D (fun _ => True) [])) (va_Qi (fun (r : Int32) (r9 : Int32) => r9 = r) (fun (r : Int32) (t : State) => ((0 ≤ r.toInt) ∧ (r.toInt ≤ 1) ∧ ((r.toInt = 1 → 0 ≤ v0.toInt)) ∧ ((r.toInt = 1 → v0.toInt ≤ v1.toInt)) ∧ (r.toInt = 0 → ¬ (0 ≤ v0.toInt ∧ v0.toInt ≤ v1.toInt)) ∧ va_P (dC, dI) vwCl [] t.heap ∧ va_K (dC, dI) vwCl [] t ∧ va_D (va_A [] sz) [])) (va_A [] sz)) 0 0 (va_A [] sz) := by
  refine Met.ofW (cc := cX12_in) (maxL := 3) (ret := (some .boolean)) (by decide) rfl ?_
  intro p e s m args below meth c s₁ B hml hv
  obtain ⟨rfl, hsz, hP, hK, hD0⟩ := hv
  have hx := B.exec
  have hb := B.bytes
  have hr := B.returns
  have hts := atoms_spec (ws := q_X12_in_1) B.pre
  have hown : s.vm.findClass RX12 = some m.cls := findClass_of_methodNamed B.named
  have hlocks := B.notSynchronized
  subst hsz
  have hD := hD0.self (sz := s.heap.size)
  generalize hAe : va_A [] s.heap.size = A at hD ⊢
  have hA : ∀ q : Nat, s.heap.size ≤ q → A q := fun q h => by rw [← hAe]; exact Or.inr h
  have hS : va_S A s.heap s.heap [] := va_S.rf
  generalize hQ : (MQ below _ _ s 0 0 A) = Q
  have hl := lv_entry ([.int v0, .int 0, .int v1]) (n := 3) (Nat.le_of_ble_eq_true rfl)
  rw [lg_entry_eq]
  generalize (lg_sl ([.int v0, .int 0, .int v1]) ++ List.replicate (3 - (lg_sl ([.int v0, .int 0, .int v1])).length) Slot.unset).toArray = ls at hl ⊢
  have hl : lv_has ls 3 [(0, .int v0), (1, .int 0), (2, .int v1)] := hl
  obtain ⟨H, hH⟩ : ∃ H : Heap, H = s.heap := ⟨_, rfl⟩
  obtain ⟨locs, hlocs⟩ : ∃ y : List Loc, y = [] := ⟨_, rfl⟩
  have hS : va_S A s.heap H locs := by rw [hH, hlocs]; exact va_S.rf
  have hP : va_P (dC, dI) vwCl [] H := by rw [hH]; exact hP
  rw [← hH, ← hlocs]
  refine lv_iload_n hx hb dX12_in_0 rfl (lv_at hl 0 rfl) ?_
  refine lv_iload_n hx hb dX12_in_1 rfl (lv_at hl 1 rfl) ?_
  refine lv_icmp_lt (tgt := 14) hx hb dX12_in_2 (by decide) (fun c1 => ?_) (fun c1 => ?_)
  · skip
    have fc1 : v0.toInt < 0 := Int32.lt_iff_toInt_lt.mp c1
    refine lv_iconst (v := 0) hx hb dX12_in_14 (by decide) ?_
    subst hQ
    have hP9 := hP.sub (ws' := []) [] rfl
    have hD9 := hD.sub (ws' := []) [] (by decide) rfl
    have hK9 := hK.sub (tys' := []) [] rfl
    exact W.zret (v := 0) hx hb hr rfl (fun t ht hW => ⟨⟨0, 0, rfl, rfl, ⟨by first | omega | decide, by first | omega | decide, fun h9 => absurd h9 (by decide), fun h9 => absurd h9 (by decide), fun _ => by omega, by rw [ht]; exact hP9, va_K.moved hW.alike hK9, hD9⟩⟩, hS.F ht⟩) hS.2.2 dX12_in_15
  · skip
    have fc1 : ¬ (v0.toInt < 0) := fun h9 => c1 (Int32.lt_iff_toInt_lt.mpr h9)
    refine lv_iload_n hx hb dX12_in_5 rfl (lv_at hl 0 rfl) ?_
    refine lv_iload_n hx hb dX12_in_6 rfl (lv_at hl 2 rfl) ?_
    refine lv_icmp_gt (tgt := 14) hx hb dX12_in_7 (by decide) (fun c2 => ?_) (fun c2 => ?_)
    · skip
      have fc2 : v1.toInt < v0.toInt := Int32.lt_iff_toInt_lt.mp c2
      have r1c2 := Int32.toInt_lt v0
      have r2c2 := Int32.toInt_lt v1
      have r3c2 := Int32.le_toInt v0
      have r4c2 := Int32.le_toInt v1
      refine lv_iconst (v := 0) hx hb dX12_in_14 (by decide) ?_
      subst hQ
      have hP9 := hP.sub (ws' := []) [] rfl
      have hD9 := hD.sub (ws' := []) [] (by decide) rfl
      have hK9 := hK.sub (tys' := []) [] rfl
      exact W.zret (v := 0) hx hb hr rfl (fun t ht hW => ⟨⟨0, 0, rfl, rfl, ⟨by first | omega | decide, by first | omega | decide, fun h9 => absurd h9 (by decide), fun h9 => absurd h9 (by decide), fun _ => by omega, by rw [ht]; exact hP9, va_K.moved hW.alike hK9, hD9⟩⟩, hS.F ht⟩) hS.2.2 dX12_in_15
    · skip
      have fc2 : ¬ (v1.toInt < v0.toInt) := fun h9 => c2 (Int32.lt_iff_toInt_lt.mpr h9)
      have r1c2 := Int32.toInt_lt v0
      have r2c2 := Int32.toInt_lt v1
      have r3c2 := Int32.le_toInt v0
      have r4c2 := Int32.le_toInt v1
      refine lv_iconst (v := 1) hx hb dX12_in_10 (by decide) ?_
      refine lv_goto (tgt := 15) hx hb dX12_in_11 (by decide) ?_
      subst hQ
      have hP9 := hP.sub (ws' := []) [] rfl
      have hD9 := hD.sub (ws' := []) [] (by decide) rfl
      have hK9 := hK.sub (tys' := []) [] rfl
      exact W.zret (v := 1) hx hb hr rfl (fun t ht hW => ⟨⟨1, 1, rfl, rfl, ⟨by first | omega | decide, by first | omega | decide, fun _ => by omega, fun _ => by omega, fun h9 => absurd h9 (by decide), by rw [ht]; exact hP9, va_K.moved hW.alike hK9, hD9⟩⟩, hS.F ht⟩) hS.2.2 dX12_in_15
def q_X12_isShelf : List Cond := .code yX12_isShelf cX12_isShelf 2 (some .boolean) :: (([.fieldLink RX12 46 "LeftArgumentsModel" "rule" "[I", .code yX12_in cX12_in 3 (some .boolean), .initialized RX12, .static yX12_in, .methodLink RX12 217 yX12_in] : List Cond) ++ wsX120)
set_option maxRecDepth 20000 in
theorem g_X12_isShelf_0 : GoodIn q_X12_isShelf (va_wsS RX12 217 yX12_in q_X12_in_1) := goodIn_app (goodIn_r _ [5, 4, 3] rfl (by decide +kernel)) (goodIn_r (.code yX12_in cX12_in 3 (some .boolean) :: []) [2] rfl (by decide +kernel))
set_option maxHeartbeats 4000000 in
set_option maxRecDepth 100000 in
theorem k_X12_isShelf (l : Launch) (dC : Nat → ClassId) (dI : Nat → Nat → Nat) (h0 : Nat) (h1 : Nat) (v0 : Int32) (r0 : Nat) (v1 : Int32) (v2 : Int32) (v3 : Int32) (v4 : Int32) (r1 : Nat) (r2 : Nat) (r3 : Nat) (r4 : Nat) (r5 : Nat) (r6 : Nat) (r7 : Nat) (v5 : Int32) (v6 : Int32) (r8 : Nat) (r9 : Nat) (r10 : Nat) (r11 : Nat) (v7 : Int32) (r12 : Nat) (v8 : Int32) (v9 : Int32) (r13 : Nat) (r14 : Nat) (v10 : Int32) (v11 : Int32) (r15 : Nat) (v12 : Int32) (v13 : Int32) (r16 : Nat) (v14 : Int32) (w15 : Int64) (r17 : Nat) (v16 : Int32) (v17 : Int32) (r18 : Nat) (r19 : Nat) (r20 : Nat) (r21 : Nat) (r22 : Nat) (r23 : Nat) (v18 : Int32) (r24 : Nat) (r25 : Nat) (r26 : Nat) (v19 : Int32) (g0 : ClassId) (f20 : Nat → Int32) (v21 : Int32) (i_v1 : 0 ≤ v1.toInt ∧ v1.toInt ≤ 240) (i_v5 : 0 ≤ v5.toInt ∧ v5.toInt ≤ 4) (i_v6 : 0 ≤ v6.toInt ∧ v6.toInt ≤ 4) (i_v7 : 0 ≤ v7.toInt ∧ v7.toInt ≤ 8) (i_v8 : 0 ≤ v8.toInt ∧ v8.toInt ≤ 8) (i_v9 : 0 ≤ v9.toInt ∧ v9.toInt ≤ 1) (i_v10 : -1 ≤ v10.toInt ∧ v10.toInt ≤ 3) (i_v14 : 0 ≤ v14.toInt ∧ v14.toInt ≤ 40) (i_v18 : 0 ≤ v18.toInt ∧ v18.toInt ≤ 10) (i_v19 : 0 ≤ v19.toInt ∧ v19.toInt ≤ 1) (ia_f20 : (pm_RU f20)) (sz : Nat) : Met l yX12_isShelf q_X12_isShelf ({ frames := 1, cells := 0, slots := 0, locals := 22 }) (va_Pc [.ref h0, .int v21] (fun U => U.heap.size = sz ∧ va_P (dC, dI) vwCl (wd_50966390 h0 v0 r0 v1 v2 v3 v4 r1 r2 r3 r4 r5 r6 r7 v5 v6 r8 r9 r10 r11 v7 h1 r12 v8 v9 r13 r14 v10 v11 r15 v12 v13 r16 v14 w15 r17 v16 v17 r18 r19 r20 r21 r22 r23 v18 r24 r25 r26 v19 h1 g0 f20) U.heap ∧ va_K (dC, dI) vwCl [(g0, .int)] U ∧ va_D (fun _ => True) (wd_50966390 h0 v0 r0 v1 v2 v3 v4 r1 r2 r3 r4 r5 r6 r7 v5 v6 r8 r9 r10 r11 v7 h1 r12 v8 v9 r13 r14 v10 v11 r15 v12 v13 r16 v14 w15 r17 v16 v17 r18 r19 r20 r21 r22 r23 v18 r24 r25 r26 v19 h1 g0 f20))) (va_Qi (fun (r : Int32) (r9 : Int32) => r9 = r) (fun (r : Int32) (t : State) => ((0 ≤ r.toInt) ∧ (r.toInt ≤ 1) ∧ va_P (dC, dI) vwCl (wd_50966390 h0 v0 r0 v1 v2 v3 v4 r1 r2 r3 r4 r5 r6 r7 v5 v6 r8 r9 r10 r11 v7 h1 r12 v8 v9 r13 r14 v10 v11 r15 v12 v13 r16 v14 w15 r17 v16 v17 r18 r19 r20 r21 r22 r23 v18 r24 r25 r26 v19 h1 g0 f20) t.heap ∧ va_K (dC, dI) vwCl [] t ∧ va_D (va_A (wd_50966390 h0 v0 r0 v1 v2 v3 v4 r1 r2 r3 r4 r5 r6 r7 v5 v6 r8 r9 r10 r11 v7 h1 r12 v8 v9 r13 r14 v10 v11 r15 v12 v13 r16 v14 w15 r17 v16 v17 r18 r19 r20 r21 r22 r23 v18 r24 r25 r26 v19 h1 g0 f20) sz) (wd_50966390 h0 v0 r0 v1 v2 v3 v4 r1 r2 r3 r4 r5 r6 r7 v5 v6 r8 r9 r10 r11 v7 h1 r12 v8 v9 r13 r14 v10 v11 r15 v12 v13 r16 v14 w15 r17 v16 v17 r18 r19 r20 r21 r22 r23 v18 r24 r25 r26 v19 h1 g0 f20))) (va_A (wd_50966390 h0 v0 r0 v1 v2 v3 v4 r1 r2 r3 r4 r5 r6 r7 v5 v6 r8 r9 r10 r11 v7 h1 r12 v8 v9 r13 r14 v10 v11 r15 v12 v13 r16 v14 w15 r17 v16 v17 r18 r19 r20 r21 r22 r23 v18 r24 r25 r26 v19 h1 g0 f20) sz)) 0 0 (va_A (wd_50966390 h0 v0 r0 v1 v2 v3 v4 r1 r2 r3 r4 r5 r6 r7 v5 v6 r8 r9 r10 r11 v7 h1 r12 v8 v9 r13 r14 v10 v11 r15 v12 v13 r16 v14 w15 r17 v16 v17 r18 r19 r20 r21 r22 r23 v18 r24 r25 r26 v19 h1 g0 f20) sz) := by
  refine Met.ofW (cc := cX12_isShelf) (maxL := 2) (ret := (some .boolean)) (by decide) rfl ?_
  intro p e s m args below meth c s₁ B hml hv
  obtain ⟨i_v1a, i_v1b⟩ := i_v1
  obtain ⟨i_v5a, i_v5b⟩ := i_v5
  obtain ⟨i_v6a, i_v6b⟩ := i_v6
  obtain ⟨i_v7a, i_v7b⟩ := i_v7
  obtain ⟨i_v8a, i_v8b⟩ := i_v8
  obtain ⟨i_v9a, i_v9b⟩ := i_v9
  obtain ⟨i_v10a, i_v10b⟩ := i_v10
  obtain ⟨i_v14a, i_v14b⟩ := i_v14
  obtain ⟨i_v18a, i_v18b⟩ := i_v18
  obtain ⟨i_v19a, i_v19b⟩ := i_v19
  obtain ⟨rfl, hsz, hP, hK, hD0⟩ := hv
  have hx := B.exec
  have hb := B.bytes
  have hr := B.returns
  have hts := atoms_spec (ws := q_X12_isShelf) B.pre
  have hown : s.vm.findClass RX12 = some m.cls := findClass_of_methodNamed B.named
  have hlocks := B.notSynchronized
  subst hsz
  have hD := hD0.self (sz := s.heap.size)
  generalize hAe : va_A (wd_50966390 h0 v0 r0 v1 v2 v3 v4 r1 r2 r3 r4 r5 r6 r7 v5 v6 r8 r9 r10 r11 v7 h1 r12 v8 v9 r13 r14 v10 v11 r15 v12 v13 r16 v14 w15 r17 v16 v17 r18 r19 r20 r21 r22 r23 v18 r24 r25 r26 v19 h1 g0 f20) s.heap.size = A at hD ⊢
  have hA : ∀ q : Nat, s.heap.size ≤ q → A q := fun q h => by rw [← hAe]; exact Or.inr h
  have hS : va_S A s.heap s.heap [] := va_S.rf
  generalize hQ : (MQ below _ _ s 0 0 A) = Q
  have hl := lv_entry ([.ref h0, .int v21]) (n := 2) (Nat.le_of_ble_eq_true rfl)
  rw [lg_entry_eq]
  generalize (lg_sl ([.ref h0, .int v21]) ++ List.replicate (2 - (lg_sl ([.ref h0, .int v21])).length) Slot.unset).toArray = ls at hl ⊢
  have hl : lv_has ls 2 [(0, .ref h0), (1, .int v21)] := hl
  obtain ⟨H, hH⟩ : ∃ H : Heap, H = s.heap := ⟨_, rfl⟩
  obtain ⟨locs, hlocs⟩ : ∃ y : List Loc, y = [] := ⟨_, rfl⟩
  have hS : va_S A s.heap H locs := by rw [hH, hlocs]; exact va_S.rf
  have hP : va_P (dC, dI) vwCl (wd_50966390 h0 v0 r0 v1 v2 v3 v4 r1 r2 r3 r4 r5 r6 r7 v5 v6 r8 r9 r10 r11 v7 h1 r12 v8 v9 r13 r14 v10 v11 r15 v12 v13 r16 v14 w15 r17 v16 v17 r18 r19 r20 r21 r22 r23 v18 r24 r25 r26 v19 h1 g0 f20) H := by rw [hH]; exact hP
  rw [← hH, ← hlocs]
  refine lv_iload_n hx hb dX12_isShelf_0 rfl (lv_at hl 1 rfl) ?_
  refine lv_iconst (v := 0) hx hb dX12_isShelf_1 (by decide) ?_
  refine lv_aload_n hx hb dX12_isShelf_2 rfl (lv_at hl 0 rfl) ?_
  refine va_get (D := (dC, dI)) (ci := 12) (v := .ref h1) (C := RX12) (T := TX12) (N := 48) hx hb hts (fun _ h => List.mem_cons_of_mem _ (List.mem_append_right _ h)) hown hK hP 0 rfl rfl 20 (by decide) (hts (.fieldLink RX12 46 "LeftArgumentsModel" "rule" "[I") (List.mem_cons_of_mem _ (List.mem_append_left _ (List.mem_of_getElem? (i := 0) rfl)))) (fun _ h9 => h9) rfl dX12_isShelf_3 ?_
  refine lv_iconst (v := 1) hx hb dX12_isShelf_6 (by decide) ?_
  refine va_iald hx hb hK hP 1 0 rfl rfl (pv_c (x := 1) (n := 4) (by decide)) dX12_isShelf_7 ?_
  refine lv_topi (fun t1 et1 => ?_)
  have gat1 : 0 ≤ t1.toInt ∧ t1.toInt ≤ 5 := by rw [et1]; exact ia_f20.1
  refine lv_iconst (v := 1) hx hb dX12_isShelf_8 (by decide) ?_
  refine lv_isub hx hb dX12_isShelf_9 ?_
  refine lv_topi (fun t2 et2 => ?_)
  have gt2 : t2.toInt = t1.toInt - 1 := pv_sub (a := t1.toInt) (b := 1) et2 rfl (by decide) (by omega) (by omega)
  have hPc := hP.sub (ws' := []) [] rfl
  have hDc := hD.sub (ws' := []) [] (by decide) rfl
  have hKc := hK.sub (tys' := []) [] rfl
  have hFc := va_free (wc := []) hD hS hA [] rfl
  refine va_calli (va_runS (As := [.int v21, .int 0, .int t2]) (rest := []) ⟨hx, hb, hml, hown, hts⟩ (k_X12_in_1 l dC dI v21 t2  H.size) (va_cwS 3 hts g_X12_isShelf_0 rfl rfl rfl (by decide +kernel) ⟨Nat.le_of_ble_eq_true rfl, Nat.le_of_ble_eq_true rfl⟩) (pv_PS hPc hKc hDc) rfl rfl hl.1 rfl (lv_room (Nat.le_of_ble_eq_true rfl)) dX12_isShelf_10 ⟨Nat.le_of_ble_eq_true rfl, Nat.le_of_ble_eq_true rfl⟩) hS (fun q _ h => hFc q h) hFc (fun ra3 u t H1 locs ht hvm hwra3 hB hz1 hk1 hS => ?_)
  try rw [hwra3] at hB
  obtain ⟨pt0_ra3, pt1_ra3, pt2_ra3, pt3_ra3, pt4_ra3, hP1, hK1, hD1⟩ := hB
  rw [ht] at hP1
  obtain ⟨hP2, hD2⟩ := va_join (wr := (wd_50966390 h0 v0 r0 v1 v2 v3 v4 r1 r2 r3 r4 r5 r6 r7 v5 v6 r8 r9 r10 r11 v7 h1 r12 v8 v9 r13 r14 v10 v11 r15 v12 v13 r16 v14 w15 r17 v16 v17 r18 r19 r20 r21 r22 r23 v18 r24 r25 r26 v19 h1 g0 f20)) (w1 := []) hP hD [] [0, 1] rfl rfl (by decide) (by decide) hk1 hFc hP1 hD1
  clear hP hD hPc hDc hKc hFc hP1 hK1 hD1 hk1 hz1
  generalize H1 = H at hP2 hS ⊢
  have hP : va_P (dC, dI) vwCl (wd_50966390 h0 v0 r0 v1 v2 v3 v4 r1 r2 r3 r4 r5 r6 r7 v5 v6 r8 r9 r10 r11 v7 h1 r12 v8 v9 r13 r14 v10 v11 r15 v12 v13 r16 v14 w15 r17 v16 v17 r18 r19 r20 r21 r22 r23 v18 r24 r25 r26 v19 h1 g0 f20) H := hP2
  have hD : va_D A (wd_50966390 h0 v0 r0 v1 v2 v3 v4 r1 r2 r3 r4 r5 r6 r7 v5 v6 r8 r9 r10 r11 v7 h1 r12 v8 v9 r13 r14 v10 v11 r15 v12 v13 r16 v14 w15 r17 v16 v17 r18 r19 r20 r21 r22 r23 v18 r24 r25 r26 v19 h1 g0 f20) := hD2
  clear hP2 hD2
  subst hQ
  have hP9 := hP.sub (ws' := (wd_50966390 h0 v0 r0 v1 v2 v3 v4 r1 r2 r3 r4 r5 r6 r7 v5 v6 r8 r9 r10 r11 v7 h1 r12 v8 v9 r13 r14 v10 v11 r15 v12 v13 r16 v14 w15 r17 v16 v17 r18 r19 r20 r21 r22 r23 v18 r24 r25 r26 v19 h1 g0 f20)) [0, 1] rfl
  have hD9 := hD.sub (ws' := (wd_50966390 h0 v0 r0 v1 v2 v3 v4 r1 r2 r3 r4 r5 r6 r7 v5 v6 r8 r9 r10 r11 v7 h1 r12 v8 v9 r13 r14 v10 v11 r15 v12 v13 r16 v14 w15 r17 v16 v17 r18 r19 r20 r21 r22 r23 v18 r24 r25 r26 v19 h1 g0 f20)) [0, 1] (by decide) rfl
  have hK9 := hK.sub (tys' := []) [] rfl
  exact W.zret (v := ra3) hx hb hr (pv_nz (by omega) (by omega)) (fun t ht hW => ⟨⟨ra3, ra3, rfl, rfl, ⟨by first | omega | decide, by first | omega | decide, by rw [ht]; exact hP9, va_K.moved hW.alike hK9, hD9⟩⟩, hS.F ht⟩) hS.2.2 dX12_isShelf_13
def q_X12_isTold : List Cond := .code yX12_isTold cX12_isTold 2 (some .boolean) :: (([.fieldLink RX12 262 "LeftArgumentsModel" "isOffice" "Z", .fieldLink RX12 266 "LeftArgumentsModel" "toldMany" "I", .code yX12_in cX12_in 3 (some .boolean), .initialized RX12, .static yX12_in, .methodLink RX12 217 yX12_in] : List Cond) ++ wsX120)
set_option maxRecDepth 20000 in
theorem g_X12_isTold_0 : GoodIn q_X12_isTold (va_wsS RX12 217 yX12_in q_X12_in_1) := goodIn_app (goodIn_r _ [6, 5, 4] rfl (by decide +kernel)) (goodIn_r (.code yX12_in cX12_in 3 (some .boolean) :: []) [3] rfl (by decide +kernel))
set_option maxHeartbeats 4000000 in
set_option maxRecDepth 100000 in
theorem k_X12_isTold (l : Launch) (dC : Nat → ClassId) (dI : Nat → Nat → Nat) (h0 : Nat) (v0 : Int32) (r0 : Nat) (v1 : Int32) (v2 : Int32) (v3 : Int32) (v4 : Int32) (r1 : Nat) (r2 : Nat) (r3 : Nat) (r4 : Nat) (r5 : Nat) (r6 : Nat) (r7 : Nat) (v5 : Int32) (v6 : Int32) (r8 : Nat) (r9 : Nat) (r10 : Nat) (r11 : Nat) (v7 : Int32) (r12 : Nat) (r13 : Nat) (v8 : Int32) (v9 : Int32) (r14 : Nat) (r15 : Nat) (v10 : Int32) (v11 : Int32) (r16 : Nat) (v12 : Int32) (v13 : Int32) (r17 : Nat) (v14 : Int32) (w15 : Int64) (r18 : Nat) (v16 : Int32) (v17 : Int32) (r19 : Nat) (r20 : Nat) (r21 : Nat) (r22 : Nat) (r23 : Nat) (r24 : Nat) (v18 : Int32) (r25 : Nat) (r26 : Nat) (r27 : Nat) (v19 : Int32) (v20 : Int32) (i_v1 : 0 ≤ v1.toInt ∧ v1.toInt ≤ 240) (i_v5 : 0 ≤ v5.toInt ∧ v5.toInt ≤ 4) (i_v6 : 0 ≤ v6.toInt ∧ v6.toInt ≤ 4) (i_v7 : 0 ≤ v7.toInt ∧ v7.toInt ≤ 8) (i_v8 : 0 ≤ v8.toInt ∧ v8.toInt ≤ 8) (i_v9 : 0 ≤ v9.toInt ∧ v9.toInt ≤ 1) (i_v10 : -1 ≤ v10.toInt ∧ v10.toInt ≤ 3) (i_v14 : 0 ≤ v14.toInt ∧ v14.toInt ≤ 40) (i_v18 : 0 ≤ v18.toInt ∧ v18.toInt ≤ 10) (i_v19 : 0 ≤ v19.toInt ∧ v19.toInt ≤ 1) (sz : Nat) : Met l yX12_isTold q_X12_isTold ({ frames := 1, cells := 0, slots := 0, locals := 22 }) (va_Pc [.ref h0, .int v20] (fun U => U.heap.size = sz ∧ va_P (dC, dI) vwCl (wd_171f232f h0 v0 r0 v1 v2 v3 v4 r1 r2 r3 r4 r5 r6 r7 v5 v6 r8 r9 r10 r11 v7 r12 r13 v8 v9 r14 r15 v10 v11 r16 v12 v13 r17 v14 w15 r18 v16 v17 r19 r20 r21 r22 r23 r24 v18 r25 r26 r27 v19) U.heap ∧ va_K (dC, dI) vwCl [] U ∧ va_D (fun _ => True) (wd_171f232f h0 v0 r0 v1 v2 v3 v4 r1 r2 r3 r4 r5 r6 r7 v5 v6 r8 r9 r10 r11 v7 r12 r13 v8 v9 r14 r15 v10 v11 r16 v12 v13 r17 v14 w15 r18 v16 v17 r19 r20 r21 r22 r23 r24 v18 r25 r26 r27 v19))) (va_Qi (fun (r : Int32) (r9 : Int32) => r9 = r) (fun (r : Int32) (t : State) => ((0 ≤ r.toInt) ∧ (r.toInt ≤ 1) ∧ ((r.toInt = 1 → 0 ≤ v20.toInt)) ∧ ((r.toInt = 1 → v20.toInt ≤ 7)) ∧ ((r.toInt = 1 → v20.toInt < v8.toInt)) ∧ va_P (dC, dI) vwCl (wd_171f232f h0 v0 r0 v1 v2 v3 v4 r1 r2 r3 r4 r5 r6 r7 v5 v6 r8 r9 r10 r11 v7 r12 r13 v8 v9 r14 r15 v10 v11 r16 v12 v13 r17 v14 w15 r18 v16 v17 r19 r20 r21 r22 r23 r24 v18 r25 r26 r27 v19) t.heap ∧ va_K (dC, dI) vwCl [] t ∧ va_D (va_A (wd_171f232f h0 v0 r0 v1 v2 v3 v4 r1 r2 r3 r4 r5 r6 r7 v5 v6 r8 r9 r10 r11 v7 r12 r13 v8 v9 r14 r15 v10 v11 r16 v12 v13 r17 v14 w15 r18 v16 v17 r19 r20 r21 r22 r23 r24 v18 r25 r26 r27 v19) sz) (wd_171f232f h0 v0 r0 v1 v2 v3 v4 r1 r2 r3 r4 r5 r6 r7 v5 v6 r8 r9 r10 r11 v7 r12 r13 v8 v9 r14 r15 v10 v11 r16 v12 v13 r17 v14 w15 r18 v16 v17 r19 r20 r21 r22 r23 r24 v18 r25 r26 r27 v19))) (va_A (wd_171f232f h0 v0 r0 v1 v2 v3 v4 r1 r2 r3 r4 r5 r6 r7 v5 v6 r8 r9 r10 r11 v7 r12 r13 v8 v9 r14 r15 v10 v11 r16 v12 v13 r17 v14 w15 r18 v16 v17 r19 r20 r21 r22 r23 r24 v18 r25 r26 r27 v19) sz)) 0 0 (va_A (wd_171f232f h0 v0 r0 v1 v2 v3 v4 r1 r2 r3 r4 r5 r6 r7 v5 v6 r8 r9 r10 r11 v7 r12 r13 v8 v9 r14 r15 v10 v11 r16 v12 v13 r17 v14 w15 r18 v16 v17 r19 r20 r21 r22 r23 r24 v18 r25 r26 r27 v19) sz) := by
  refine Met.ofW (cc := cX12_isTold) (maxL := 2) (ret := (some .boolean)) (by decide) rfl ?_
  intro p e s m args below meth c s₁ B hml hv
  obtain ⟨i_v1a, i_v1b⟩ := i_v1
  obtain ⟨i_v5a, i_v5b⟩ := i_v5
  obtain ⟨i_v6a, i_v6b⟩ := i_v6
  obtain ⟨i_v7a, i_v7b⟩ := i_v7
  obtain ⟨i_v8a, i_v8b⟩ := i_v8
  obtain ⟨i_v9a, i_v9b⟩ := i_v9
  obtain ⟨i_v10a, i_v10b⟩ := i_v10
  obtain ⟨i_v14a, i_v14b⟩ := i_v14
  obtain ⟨i_v18a, i_v18b⟩ := i_v18
  obtain ⟨i_v19a, i_v19b⟩ := i_v19
  obtain ⟨rfl, hsz, hP, hK, hD0⟩ := hv
  have hx := B.exec
  have hb := B.bytes
  have hr := B.returns
  have hts := atoms_spec (ws := q_X12_isTold) B.pre
  have hown : s.vm.findClass RX12 = some m.cls := findClass_of_methodNamed B.named
  have hlocks := B.notSynchronized
  subst hsz
  have hD := hD0.self (sz := s.heap.size)
  generalize hAe : va_A (wd_171f232f h0 v0 r0 v1 v2 v3 v4 r1 r2 r3 r4 r5 r6 r7 v5 v6 r8 r9 r10 r11 v7 r12 r13 v8 v9 r14 r15 v10 v11 r16 v12 v13 r17 v14 w15 r18 v16 v17 r19 r20 r21 r22 r23 r24 v18 r25 r26 r27 v19) s.heap.size = A at hD ⊢
  have hA : ∀ q : Nat, s.heap.size ≤ q → A q := fun q h => by rw [← hAe]; exact Or.inr h
  have hS : va_S A s.heap s.heap [] := va_S.rf
  generalize hQ : (MQ below _ _ s 0 0 A) = Q
  have hl := lv_entry ([.ref h0, .int v20]) (n := 2) (Nat.le_of_ble_eq_true rfl)
  rw [lg_entry_eq]
  generalize (lg_sl ([.ref h0, .int v20]) ++ List.replicate (2 - (lg_sl ([.ref h0, .int v20])).length) Slot.unset).toArray = ls at hl ⊢
  have hl : lv_has ls 2 [(0, .ref h0), (1, .int v20)] := hl
  obtain ⟨H, hH⟩ : ∃ H : Heap, H = s.heap := ⟨_, rfl⟩
  obtain ⟨locs, hlocs⟩ : ∃ y : List Loc, y = [] := ⟨_, rfl⟩
  have hS : va_S A s.heap H locs := by rw [hH, hlocs]; exact va_S.rf
  have hP : va_P (dC, dI) vwCl (wd_171f232f h0 v0 r0 v1 v2 v3 v4 r1 r2 r3 r4 r5 r6 r7 v5 v6 r8 r9 r10 r11 v7 r12 r13 v8 v9 r14 r15 v10 v11 r16 v12 v13 r17 v14 w15 r18 v16 v17 r19 r20 r21 r22 r23 r24 v18 r25 r26 r27 v19) H := by rw [hH]; exact hP
  rw [← hH, ← hlocs]
  refine lv_aload_n hx hb dX12_isTold_0 rfl (lv_at hl 0 rfl) ?_
  refine va_get (D := (dC, dI)) (ci := 12) (v := .int v9) (C := RX12) (T := TX12) (N := 48) hx hb hts (fun _ h => List.mem_cons_of_mem _ (List.mem_append_right _ h)) hown hK hP 0 rfl rfl 23 (by decide) (hts (.fieldLink RX12 262 "LeftArgumentsModel" "isOffice" "Z") (List.mem_cons_of_mem _ (List.mem_append_left _ (List.mem_of_getElem? (i := 0) rfl)))) (fun _ h9 => h9) rfl dX12_isTold_1 ?_
  refine lv_if_eq (tgt := 25) hx hb dX12_isTold_4 (by decide) (fun c1 => ?_) (fun c1 => ?_)
  · skip
    have fc1 : v9.toInt = 0 := congrArg Int32.toInt c1
    refine lv_iconst (v := 0) hx hb dX12_isTold_25 (by decide) ?_
    subst hQ
    have hP9 := hP.sub (ws' := (wd_171f232f h0 v0 r0 v1 v2 v3 v4 r1 r2 r3 r4 r5 r6 r7 v5 v6 r8 r9 r10 r11 v7 r12 r13 v8 v9 r14 r15 v10 v11 r16 v12 v13 r17 v14 w15 r18 v16 v17 r19 r20 r21 r22 r23 r24 v18 r25 r26 r27 v19)) [0] rfl
    have hD9 := hD.sub (ws' := (wd_171f232f h0 v0 r0 v1 v2 v3 v4 r1 r2 r3 r4 r5 r6 r7 v5 v6 r8 r9 r10 r11 v7 r12 r13 v8 v9 r14 r15 v10 v11 r16 v12 v13 r17 v14 w15 r18 v16 v17 r19 r20 r21 r22 r23 r24 v18 r25 r26 r27 v19)) [0] (by decide) rfl
    have hK9 := hK.sub (tys' := []) [] rfl
    exact W.zret (v := 0) hx hb hr rfl (fun t ht hW => ⟨⟨0, 0, rfl, rfl, ⟨by first | omega | decide, by first | omega | decide, fun h9 => absurd h9 (by decide), fun h9 => absurd h9 (by decide), fun h9 => absurd h9 (by decide), by rw [ht]; exact hP9, va_K.moved hW.alike hK9, hD9⟩⟩, hS.F ht⟩) hS.2.2 dX12_isTold_26
  · skip
    have fc1 : ¬ (v9.toInt = 0) := fun h9 => c1 (Int32.toInt_inj.mp h9)
    refine lv_iload_n hx hb dX12_isTold_7 rfl (lv_at hl 1 rfl) ?_
    refine lv_iconst (v := 0) hx hb dX12_isTold_8 (by decide) ?_
    refine lv_aload_n hx hb dX12_isTold_9 rfl (lv_at hl 0 rfl) ?_
    refine va_get (D := (dC, dI)) (ci := 12) (v := .int v8) (C := RX12) (T := TX12) (N := 48) hx hb hts (fun _ h => List.mem_cons_of_mem _ (List.mem_append_right _ h)) hown hK hP 0 rfl rfl 22 (by decide) (hts (.fieldLink RX12 266 "LeftArgumentsModel" "toldMany" "I") (List.mem_cons_of_mem _ (List.mem_append_left _ (List.mem_of_getElem? (i := 1) rfl)))) (fun _ h9 => h9) rfl dX12_isTold_10 ?_
    refine lv_iconst (v := 1) hx hb dX12_isTold_13 (by decide) ?_
    refine lv_isub hx hb dX12_isTold_14 ?_
    refine lv_topi (fun t2 et2 => ?_)
    have gt2 : t2.toInt = v8.toInt - 1 := pv_sub (a := v8.toInt) (b := 1) et2 rfl (by decide) (by omega) (by omega)
    have hPc := hP.sub (ws' := []) [] rfl
    have hDc := hD.sub (ws' := []) [] (by decide) rfl
    have hKc := hK.sub (tys' := []) [] rfl
    have hFc := va_free (wc := []) hD hS hA [] rfl
    refine va_calli (va_runS (As := [.int v20, .int 0, .int t2]) (rest := []) ⟨hx, hb, hml, hown, hts⟩ (k_X12_in_1 l dC dI v20 t2  H.size) (va_cwS 3 hts g_X12_isTold_0 rfl rfl rfl (by decide +kernel) ⟨Nat.le_of_ble_eq_true rfl, Nat.le_of_ble_eq_true rfl⟩) (pv_PS hPc hKc hDc) rfl rfl hl.1 rfl (lv_room (Nat.le_of_ble_eq_true rfl)) dX12_isTold_15 ⟨Nat.le_of_ble_eq_true rfl, Nat.le_of_ble_eq_true rfl⟩) hS (fun q _ h => hFc q h) hFc (fun ra3 u t H1 locs ht hvm hwra3 hB hz1 hk1 hS => ?_)
    try rw [hwra3] at hB
    obtain ⟨pt0_ra3, pt1_ra3, pt2_ra3, pt3_ra3, pt4_ra3, hP1, hK1, hD1⟩ := hB
    rw [ht] at hP1
    obtain ⟨hP2, hD2⟩ := va_join (wr := (wd_171f232f h0 v0 r0 v1 v2 v3 v4 r1 r2 r3 r4 r5 r6 r7 v5 v6 r8 r9 r10 r11 v7 r12 r13 v8 v9 r14 r15 v10 v11 r16 v12 v13 r17 v14 w15 r18 v16 v17 r19 r20 r21 r22 r23 r24 v18 r25 r26 r27 v19)) (w1 := []) hP hD [] [0] rfl rfl (by decide) (by decide) hk1 hFc hP1 hD1
    clear hP hD hPc hDc hKc hFc hP1 hK1 hD1 hk1 hz1
    generalize H1 = H at hP2 hS ⊢
    have hP : va_P (dC, dI) vwCl (wd_171f232f h0 v0 r0 v1 v2 v3 v4 r1 r2 r3 r4 r5 r6 r7 v5 v6 r8 r9 r10 r11 v7 r12 r13 v8 v9 r14 r15 v10 v11 r16 v12 v13 r17 v14 w15 r18 v16 v17 r19 r20 r21 r22 r23 r24 v18 r25 r26 r27 v19) H := hP2
    have hD : va_D A (wd_171f232f h0 v0 r0 v1 v2 v3 v4 r1 r2 r3 r4 r5 r6 r7 v5 v6 r8 r9 r10 r11 v7 r12 r13 v8 v9 r14 r15 v10 v11 r16 v12 v13 r17 v14 w15 r18 v16 v17 r19 r20 r21 r22 r23 r24 v18 r25 r26 r27 v19) := hD2
    clear hP2 hD2
    refine lv_if_eq (tgt := 25) hx hb dX12_isTold_18 (by decide) (fun c4 => ?_) (fun c4 => ?_)
    · skip
      have fc4 : ra3.toInt = 0 := congrArg Int32.toInt c4
      refine lv_iconst (v := 0) hx hb dX12_isTold_25 (by decide) ?_
      subst hQ
      have hP9 := hP.sub (ws' := (wd_171f232f h0 v0 r0 v1 v2 v3 v4 r1 r2 r3 r4 r5 r6 r7 v5 v6 r8 r9 r10 r11 v7 r12 r13 v8 v9 r14 r15 v10 v11 r16 v12 v13 r17 v14 w15 r18 v16 v17 r19 r20 r21 r22 r23 r24 v18 r25 r26 r27 v19)) [0] rfl
      have hD9 := hD.sub (ws' := (wd_171f232f h0 v0 r0 v1 v2 v3 v4 r1 r2 r3 r4 r5 r6 r7 v5 v6 r8 r9 r10 r11 v7 r12 r13 v8 v9 r14 r15 v10 v11 r16 v12 v13 r17 v14 w15 r18 v16 v17 r19 r20 r21 r22 r23 r24 v18 r25 r26 r27 v19)) [0] (by decide) rfl
      have hK9 := hK.sub (tys' := []) [] rfl
      exact W.zret (v := 0) hx hb hr rfl (fun t ht hW => ⟨⟨0, 0, rfl, rfl, ⟨by first | omega | decide, by first | omega | decide, fun h9 => absurd h9 (by decide), fun h9 => absurd h9 (by decide), fun h9 => absurd h9 (by decide), by rw [ht]; exact hP9, va_K.moved hW.alike hK9, hD9⟩⟩, hS.F ht⟩) hS.2.2 dX12_isTold_26
    · skip
      have fc4 : ¬ (ra3.toInt = 0) := fun h9 => c4 (Int32.toInt_inj.mp h9)
      refine lv_iconst (v := 1) hx hb dX12_isTold_21 (by decide) ?_
      refine lv_goto (tgt := 26) hx hb dX12_isTold_22 (by decide) ?_
      subst hQ
      have hP9 := hP.sub (ws' := (wd_171f232f h0 v0 r0 v1 v2 v3 v4 r1 r2 r3 r4 r5 r6 r7 v5 v6 r8 r9 r10 r11 v7 r12 r13 v8 v9 r14 r15 v10 v11 r16 v12 v13 r17 v14 w15 r18 v16 v17 r19 r20 r21 r22 r23 r24 v18 r25 r26 r27 v19)) [0] rfl
      have hD9 := hD.sub (ws' := (wd_171f232f h0 v0 r0 v1 v2 v3 v4 r1 r2 r3 r4 r5 r6 r7 v5 v6 r8 r9 r10 r11 v7 r12 r13 v8 v9 r14 r15 v10 v11 r16 v12 v13 r17 v14 w15 r18 v16 v17 r19 r20 r21 r22 r23 r24 v18 r25 r26 r27 v19)) [0] (by decide) rfl
      have hK9 := hK.sub (tys' := []) [] rfl
      exact W.zret (v := 1) hx hb hr rfl (fun t ht hW => ⟨⟨1, 1, rfl, rfl, ⟨by first | omega | decide, by first | omega | decide, fun _ => by omega, fun _ => by omega, fun _ => by omega, by rw [ht]; exact hP9, va_K.moved hW.alike hK9, hD9⟩⟩, hS.F ht⟩) hS.2.2 dX12_isTold_26
def q_X12_in_2 : List Cond := .code yX12_in cX12_in 3 (some .boolean) :: (([] : List Cond))
set_option maxHeartbeats 4000000 in
set_option maxRecDepth 100000 in
theorem k_X12_in_2 (l : Launch) (dC : Nat → ClassId) (dI : Nat → Nat → Nat) (v0 : Int32) (sz : Nat) : Met l yX12_in q_X12_in_2 ({ frames := 0, cells := 0, slots := 0, locals := 0 }) (va_Pc [.int v0, .int 0, .int 9] (fun U => U.heap.size = sz ∧ va_P (dC, dI) vwCl [] U.heap ∧ va_K (dC, dI) vwCl [] U ∧ va_D (fun _ => True) [])) (va_Qi (fun (r : Int32) (r9 : Int32) => r9 = r) (fun (r : Int32) (t : State) => ((0 ≤ r.toInt) ∧ (r.toInt ≤ 1) ∧ ((r.toInt = 1 → 0 ≤ v0.toInt)) ∧ ((r.toInt = 1 → v0.toInt ≤ 9)) ∧ (r.toInt = 0 → ¬ (0 ≤ v0.toInt ∧ v0.toInt ≤ 9)) ∧ va_P (dC, dI) vwCl [] t.heap ∧ va_K (dC, dI) vwCl [] t ∧ va_D (va_A [] sz) [])) (va_A [] sz)) 0 0 (va_A [] sz) := by
  refine Met.ofW (cc := cX12_in) (maxL := 3) (ret := (some .boolean)) (by decide) rfl ?_
  intro p e s m args below meth c s₁ B hml hv
  obtain ⟨rfl, hsz, hP, hK, hD0⟩ := hv
  have hx := B.exec
  have hb := B.bytes
  have hr := B.returns
  have hts := atoms_spec (ws := q_X12_in_2) B.pre
  have hown : s.vm.findClass RX12 = some m.cls := findClass_of_methodNamed B.named
  have hlocks := B.notSynchronized
  subst hsz
  have hD := hD0.self (sz := s.heap.size)
  generalize hAe : va_A [] s.heap.size = A at hD ⊢
  have hA : ∀ q : Nat, s.heap.size ≤ q → A q := fun q h => by rw [← hAe]; exact Or.inr h
  have hS : va_S A s.heap s.heap [] := va_S.rf
  generalize hQ : (MQ below _ _ s 0 0 A) = Q
  have hl := lv_entry ([.int v0, .int 0, .int 9]) (n := 3) (Nat.le_of_ble_eq_true rfl)
  rw [lg_entry_eq]
  generalize (lg_sl ([.int v0, .int 0, .int 9]) ++ List.replicate (3 - (lg_sl ([.int v0, .int 0, .int 9])).length) Slot.unset).toArray = ls at hl ⊢
  have hl : lv_has ls 3 [(0, .int v0), (1, .int 0), (2, .int 9)] := hl
  obtain ⟨H, hH⟩ : ∃ H : Heap, H = s.heap := ⟨_, rfl⟩
  obtain ⟨locs, hlocs⟩ : ∃ y : List Loc, y = [] := ⟨_, rfl⟩
  have hS : va_S A s.heap H locs := by rw [hH, hlocs]; exact va_S.rf
  have hP : va_P (dC, dI) vwCl [] H := by rw [hH]; exact hP
  rw [← hH, ← hlocs]
  refine lv_iload_n hx hb dX12_in_0 rfl (lv_at hl 0 rfl) ?_
  refine lv_iload_n hx hb dX12_in_1 rfl (lv_at hl 1 rfl) ?_
  refine lv_icmp_lt (tgt := 14) hx hb dX12_in_2 (by decide) (fun c1 => ?_) (fun c1 => ?_)
  · skip
    have fc1 : v0.toInt < 0 := Int32.lt_iff_toInt_lt.mp c1
    refine lv_iconst (v := 0) hx hb dX12_in_14 (by decide) ?_
    subst hQ
    have hP9 := hP.sub (ws' := []) [] rfl
    have hD9 := hD.sub (ws' := []) [] (by decide) rfl
    have hK9 := hK.sub (tys' := []) [] rfl
    exact W.zret (v := 0) hx hb hr rfl (fun t ht hW => ⟨⟨0, 0, rfl, rfl, ⟨by first | omega | decide, by first | omega | decide, fun h9 => absurd h9 (by decide), fun h9 => absurd h9 (by decide), fun _ => by omega, by rw [ht]; exact hP9, va_K.moved hW.alike hK9, hD9⟩⟩, hS.F ht⟩) hS.2.2 dX12_in_15
  · skip
    have fc1 : ¬ (v0.toInt < 0) := fun h9 => c1 (Int32.lt_iff_toInt_lt.mpr h9)
    refine lv_iload_n hx hb dX12_in_5 rfl (lv_at hl 0 rfl) ?_
    refine lv_iload_n hx hb dX12_in_6 rfl (lv_at hl 2 rfl) ?_
    refine lv_icmp_gt (tgt := 14) hx hb dX12_in_7 (by decide) (fun c2 => ?_) (fun c2 => ?_)
    · skip
      have fc2 : 9 < v0.toInt := Int32.lt_iff_toInt_lt.mp c2
      refine lv_iconst (v := 0) hx hb dX12_in_14 (by decide) ?_
      subst hQ
      have hP9 := hP.sub (ws' := []) [] rfl
      have hD9 := hD.sub (ws' := []) [] (by decide) rfl
      have hK9 := hK.sub (tys' := []) [] rfl
      exact W.zret (v := 0) hx hb hr rfl (fun t ht hW => ⟨⟨0, 0, rfl, rfl, ⟨by first | omega | decide, by first | omega | decide, fun h9 => absurd h9 (by decide), fun h9 => absurd h9 (by decide), fun _ => by omega, by rw [ht]; exact hP9, va_K.moved hW.alike hK9, hD9⟩⟩, hS.F ht⟩) hS.2.2 dX12_in_15
    · skip
      have fc2 : ¬ (9 < v0.toInt) := fun h9 => c2 (Int32.lt_iff_toInt_lt.mpr h9)
      refine lv_iconst (v := 1) hx hb dX12_in_10 (by decide) ?_
      refine lv_goto (tgt := 15) hx hb dX12_in_11 (by decide) ?_
      subst hQ
      have hP9 := hP.sub (ws' := []) [] rfl
      have hD9 := hD.sub (ws' := []) [] (by decide) rfl
      have hK9 := hK.sub (tys' := []) [] rfl
      exact W.zret (v := 1) hx hb hr rfl (fun t ht hW => ⟨⟨1, 1, rfl, rfl, ⟨by first | omega | decide, by first | omega | decide, fun _ => by omega, fun _ => by omega, fun h9 => absurd h9 (by decide), by rw [ht]; exact hP9, va_K.moved hW.alike hK9, hD9⟩⟩, hS.F ht⟩) hS.2.2 dX12_in_15
def q_X12_trains : List Cond := .code yX12_trains cX12_trains 2 (some .boolean) :: (([.code yX12_in cX12_in 3 (some .boolean), .initialized RX12, .static yX12_in, .methodLink RX12 217 yX12_in, .fieldLink RX12 62 "LeftArgumentsModel" "training" "I"] : List Cond) ++ wsX120)
set_option maxRecDepth 20000 in
theorem g_X12_trains_0 : GoodIn q_X12_trains (va_wsS RX12 217 yX12_in q_X12_in_2) := goodIn_app (goodIn_r _ [4, 3, 2] rfl (by decide +kernel)) (goodIn_r (.code yX12_in cX12_in 3 (some .boolean) :: []) [1] rfl (by decide +kernel))
set_option maxHeartbeats 4000000 in
set_option maxRecDepth 100000 in
theorem k_X12_trains (l : Launch) (dC : Nat → ClassId) (dI : Nat → Nat → Nat) (h0 : Nat) (v0 : Int32) (r0 : Nat) (v1 : Int32) (v2 : Int32) (v3 : Int32) (v4 : Int32) (r1 : Nat) (r2 : Nat) (r3 : Nat) (r4 : Nat) (r5 : Nat) (r6 : Nat) (r7 : Nat) (v5 : Int32) (v6 : Int32) (r8 : Nat) (r9 : Nat) (r10 : Nat) (r11 : Nat) (v7 : Int32) (r12 : Nat) (r13 : Nat) (v8 : Int32) (v9 : Int32) (r14 : Nat) (r15 : Nat) (v10 : Int32) (v11 : Int32) (r16 : Nat) (v12 : Int32) (v13 : Int32) (r17 : Nat) (v14 : Int32) (w15 : Int64) (r18 : Nat) (v16 : Int32) (v17 : Int32) (r19 : Nat) (r20 : Nat) (r21 : Nat) (r22 : Nat) (r23 : Nat) (r24 : Nat) (v18 : Int32) (r25 : Nat) (r26 : Nat) (r27 : Nat) (v19 : Int32) (v20 : Int32) (i_v1 : 0 ≤ v1.toInt ∧ v1.toInt ≤ 240) (i_v5 : 0 ≤ v5.toInt ∧ v5.toInt ≤ 4) (i_v6 : 0 ≤ v6.toInt ∧ v6.toInt ≤ 4) (i_v7 : 0 ≤ v7.toInt ∧ v7.toInt ≤ 8) (i_v8 : 0 ≤ v8.toInt ∧ v8.toInt ≤ 8) (i_v9 : 0 ≤ v9.toInt ∧ v9.toInt ≤ 1) (i_v10 : -1 ≤ v10.toInt ∧ v10.toInt ≤ 3) (i_v14 : 0 ≤ v14.toInt ∧ v14.toInt ≤ 40) (i_v18 : 0 ≤ v18.toInt ∧ v18.toInt ≤ 10) (i_v19 : 0 ≤ v19.toInt ∧ v19.toInt ≤ 1) (sz : Nat) : Met l yX12_trains q_X12_trains ({ frames := 1, cells := 0, slots := 0, locals := 22 }) (va_Pc [.ref h0, .int v20] (fun U => U.heap.size = sz ∧ va_P (dC, dI) vwCl (wd_171f232f h0 v0 r0 v1 v2 v3 v4 r1 r2 r3 r4 r5 r6 r7 v5 v6 r8 r9 r10 r11 v7 r12 r13 v8 v9 r14 r15 v10 v11 r16 v12 v13 r17 v14 w15 r18 v16 v17 r19 r20 r21 r22 r23 r24 v18 r25 r26 r27 v19) U.heap ∧ va_K (dC, dI) vwCl [] U ∧ va_D (fun _ => True) (wd_171f232f h0 v0 r0 v1 v2 v3 v4 r1 r2 r3 r4 r5 r6 r7 v5 v6 r8 r9 r10 r11 v7 r12 r13 v8 v9 r14 r15 v10 v11 r16 v12 v13 r17 v14 w15 r18 v16 v17 r19 r20 r21 r22 r23 r24 v18 r25 r26 r27 v19))) (va_Qi (fun (r : Int32) (r9 : Int32) => r9 = r) (fun (r : Int32) (t : State) => ((0 ≤ r.toInt) ∧ (r.toInt ≤ 0) ∧ (¬ (0 ≤ v20.toInt ∧ v20.toInt ≤ 9) ∨ v20.toInt = v11.toInt) ∧ va_P (dC, dI) vwCl (wd_171f232f h0 v0 r0 v1 v2 v3 v4 r1 r2 r3 r4 r5 r6 r7 v5 v6 r8 r9 r10 r11 v7 r12 r13 v8 v9 r14 r15 v10 v11 r16 v12 v13 r17 v14 w15 r18 v16 v17 r19 r20 r21 r22 r23 r24 v18 r25 r26 r27 v19) t.heap ∧ va_K (dC, dI) vwCl [] t ∧ va_D (va_A (wd_171f232f h0 v0 r0 v1 v2 v3 v4 r1 r2 r3 r4 r5 r6 r7 v5 v6 r8 r9 r10 r11 v7 r12 r13 v8 v9 r14 r15 v10 v11 r16 v12 v13 r17 v14 w15 r18 v16 v17 r19 r20 r21 r22 r23 r24 v18 r25 r26 r27 v19) sz) (wd_171f232f h0 v0 r0 v1 v2 v3 v4 r1 r2 r3 r4 r5 r6 r7 v5 v6 r8 r9 r10 r11 v7 r12 r13 v8 v9 r14 r15 v10 v11 r16 v12 v13 r17 v14 w15 r18 v16 v17 r19 r20 r21 r22 r23 r24 v18 r25 r26 r27 v19)) ∨ (∃ (o_h0_27 : Int32), 0 ≤ o_h0_27.toInt ∧ o_h0_27.toInt ≤ 9 ∧ (1 ≤ r.toInt) ∧ (r.toInt ≤ 1) ∧ (0 ≤ v20.toInt ∧ v20.toInt ≤ 9 ∧ ¬ v20.toInt = v11.toInt) ∧ (o_h0_27.toInt = v20.toInt) ∧ va_P (dC, dI) vwCl (wd_171f232f h0 v0 r0 v1 v2 v3 v4 r1 r2 r3 r4 r5 r6 r7 v5 v6 r8 r9 r10 r11 v7 r12 r13 v8 v9 r14 r15 v10 o_h0_27 r16 v12 v13 r17 v14 w15 r18 v16 v17 r19 r20 r21 r22 r23 r24 v18 r25 r26 r27 v19) t.heap ∧ va_K (dC, dI) vwCl [] t ∧ va_D (va_A (wd_171f232f h0 v0 r0 v1 v2 v3 v4 r1 r2 r3 r4 r5 r6 r7 v5 v6 r8 r9 r10 r11 v7 r12 r13 v8 v9 r14 r15 v10 v11 r16 v12 v13 r17 v14 w15 r18 v16 v17 r19 r20 r21 r22 r23 r24 v18 r25 r26 r27 v19) sz) (wd_171f232f h0 v0 r0 v1 v2 v3 v4 r1 r2 r3 r4 r5 r6 r7 v5 v6 r8 r9 r10 r11 v7 r12 r13 v8 v9 r14 r15 v10 o_h0_27 r16 v12 v13 r17 v14 w15 r18 v16 v17 r19 r20 r21 r22 r23 r24 v18 r25 r26 r27 v19))) (va_A (wd_171f232f h0 v0 r0 v1 v2 v3 v4 r1 r2 r3 r4 r5 r6 r7 v5 v6 r8 r9 r10 r11 v7 r12 r13 v8 v9 r14 r15 v10 v11 r16 v12 v13 r17 v14 w15 r18 v16 v17 r19 r20 r21 r22 r23 r24 v18 r25 r26 r27 v19) sz)) 0 0 (va_A (wd_171f232f h0 v0 r0 v1 v2 v3 v4 r1 r2 r3 r4 r5 r6 r7 v5 v6 r8 r9 r10 r11 v7 r12 r13 v8 v9 r14 r15 v10 v11 r16 v12 v13 r17 v14 w15 r18 v16 v17 r19 r20 r21 r22 r23 r24 v18 r25 r26 r27 v19) sz) := by
  refine Met.ofW (cc := cX12_trains) (maxL := 2) (ret := (some .boolean)) (by decide) rfl ?_
  intro p e s m args below meth c s₁ B hml hv
  obtain ⟨i_v1a, i_v1b⟩ := i_v1
  obtain ⟨i_v5a, i_v5b⟩ := i_v5
  obtain ⟨i_v6a, i_v6b⟩ := i_v6
  obtain ⟨i_v7a, i_v7b⟩ := i_v7
  obtain ⟨i_v8a, i_v8b⟩ := i_v8
  obtain ⟨i_v9a, i_v9b⟩ := i_v9
  obtain ⟨i_v10a, i_v10b⟩ := i_v10
  obtain ⟨i_v14a, i_v14b⟩ := i_v14
  obtain ⟨i_v18a, i_v18b⟩ := i_v18
  obtain ⟨i_v19a, i_v19b⟩ := i_v19
  obtain ⟨rfl, hsz, hP, hK, hD0⟩ := hv
  have hx := B.exec
  have hb := B.bytes
  have hr := B.returns
  have hts := atoms_spec (ws := q_X12_trains) B.pre
  have hown : s.vm.findClass RX12 = some m.cls := findClass_of_methodNamed B.named
  have hlocks := B.notSynchronized
  subst hsz
  have hD := hD0.self (sz := s.heap.size)
  generalize hAe : va_A (wd_171f232f h0 v0 r0 v1 v2 v3 v4 r1 r2 r3 r4 r5 r6 r7 v5 v6 r8 r9 r10 r11 v7 r12 r13 v8 v9 r14 r15 v10 v11 r16 v12 v13 r17 v14 w15 r18 v16 v17 r19 r20 r21 r22 r23 r24 v18 r25 r26 r27 v19) s.heap.size = A at hD ⊢
  have hA : ∀ q : Nat, s.heap.size ≤ q → A q := fun q h => by rw [← hAe]; exact Or.inr h
  have hS : va_S A s.heap s.heap [] := va_S.rf
  generalize hQ : (MQ below _ _ s 0 0 A) = Q
  have hl := lv_entry ([.ref h0, .int v20]) (n := 2) (Nat.le_of_ble_eq_true rfl)
  rw [lg_entry_eq]
  generalize (lg_sl ([.ref h0, .int v20]) ++ List.replicate (2 - (lg_sl ([.ref h0, .int v20])).length) Slot.unset).toArray = ls at hl ⊢
  have hl : lv_has ls 2 [(0, .ref h0), (1, .int v20)] := hl
  obtain ⟨H, hH⟩ : ∃ H : Heap, H = s.heap := ⟨_, rfl⟩
  obtain ⟨locs, hlocs⟩ : ∃ y : List Loc, y = [] := ⟨_, rfl⟩
  have hS : va_S A s.heap H locs := by rw [hH, hlocs]; exact va_S.rf
  have hP : va_P (dC, dI) vwCl (wd_171f232f h0 v0 r0 v1 v2 v3 v4 r1 r2 r3 r4 r5 r6 r7 v5 v6 r8 r9 r10 r11 v7 r12 r13 v8 v9 r14 r15 v10 v11 r16 v12 v13 r17 v14 w15 r18 v16 v17 r19 r20 r21 r22 r23 r24 v18 r25 r26 r27 v19) H := by rw [hH]; exact hP
  rw [← hH, ← hlocs]
  refine lv_iload_n hx hb dX12_trains_0 rfl (lv_at hl 1 rfl) ?_
  refine lv_iconst (v := 0) hx hb dX12_trains_1 (by decide) ?_
  refine lv_bipush (v := 9) hx hb dX12_trains_2 (by decide) ?_
  have hPc := hP.sub (ws' := []) [] rfl
  have hDc := hD.sub (ws' := []) [] (by decide) rfl
  have hKc := hK.sub (tys' := []) [] rfl
  have hFc := va_free (wc := []) hD hS hA [] rfl
  refine va_calli (va_runS (As := [.int v20, .int 0, .int 9]) (rest := []) ⟨hx, hb, hml, hown, hts⟩ (k_X12_in_2 l dC dI v20  H.size) (va_cwS 3 hts g_X12_trains_0 rfl rfl rfl (by decide +kernel) ⟨Nat.le_of_ble_eq_true rfl, Nat.le_of_ble_eq_true rfl⟩) (pv_PS hPc hKc hDc) rfl rfl hl.1 rfl (lv_room (Nat.le_of_ble_eq_true rfl)) dX12_trains_4 ⟨Nat.le_of_ble_eq_true rfl, Nat.le_of_ble_eq_true rfl⟩) hS (fun q _ h => hFc q h) hFc (fun ra1 u t H1 locs ht hvm hwra1 hB hz1 hk1 hS => ?_)
  try rw [hwra1] at hB
  obtain ⟨pt0_ra1, pt1_ra1, pt2_ra1, pt3_ra1, pt4_ra1, hP1, hK1, hD1⟩ := hB
  rw [ht] at hP1
  obtain ⟨hP2, hD2⟩ := va_join (wr := (wd_171f232f h0 v0 r0 v1 v2 v3 v4 r1 r2 r3 r4 r5 r6 r7 v5 v6 r8 r9 r10 r11 v7 r12 r13 v8 v9 r14 r15 v10 v11 r16 v12 v13 r17 v14 w15 r18 v16 v17 r19 r20 r21 r22 r23 r24 v18 r25 r26 r27 v19)) (w1 := []) hP hD [] [0] rfl rfl (by decide) (by decide) hk1 hFc hP1 hD1
  clear hP hD hPc hDc hKc hFc hP1 hK1 hD1 hk1 hz1
  generalize H1 = H at hP2 hS ⊢
  have hP : va_P (dC, dI) vwCl (wd_171f232f h0 v0 r0 v1 v2 v3 v4 r1 r2 r3 r4 r5 r6 r7 v5 v6 r8 r9 r10 r11 v7 r12 r13 v8 v9 r14 r15 v10 v11 r16 v12 v13 r17 v14 w15 r18 v16 v17 r19 r20 r21 r22 r23 r24 v18 r25 r26 r27 v19) H := hP2
  have hD : va_D A (wd_171f232f h0 v0 r0 v1 v2 v3 v4 r1 r2 r3 r4 r5 r6 r7 v5 v6 r8 r9 r10 r11 v7 r12 r13 v8 v9 r14 r15 v10 v11 r16 v12 v13 r17 v14 w15 r18 v16 v17 r19 r20 r21 r22 r23 r24 v18 r25 r26 r27 v19) := hD2
  clear hP2 hD2
  refine lv_if_eq (tgt := 18) hx hb dX12_trains_7 (by decide) (fun c2 => ?_) (fun c2 => ?_)
  · skip
    have fc2 : ra1.toInt = 0 := congrArg Int32.toInt c2
    refine lv_iconst (v := 0) hx hb dX12_trains_18 (by decide) ?_
    subst hQ
    have hP9 := hP.sub (ws' := (wd_171f232f h0 v0 r0 v1 v2 v3 v4 r1 r2 r3 r4 r5 r6 r7 v5 v6 r8 r9 r10 r11 v7 r12 r13 v8 v9 r14 r15 v10 v11 r16 v12 v13 r17 v14 w15 r18 v16 v17 r19 r20 r21 r22 r23 r24 v18 r25 r26 r27 v19)) [0] rfl
    have hD9 := hD.sub (ws' := (wd_171f232f h0 v0 r0 v1 v2 v3 v4 r1 r2 r3 r4 r5 r6 r7 v5 v6 r8 r9 r10 r11 v7 r12 r13 v8 v9 r14 r15 v10 v11 r16 v12 v13 r17 v14 w15 r18 v16 v17 r19 r20 r21 r22 r23 r24 v18 r25 r26 r27 v19)) [0] (by decide) rfl
    have hK9 := hK.sub (tys' := []) [] rfl
    exact W.zret (v := 0) hx hb hr rfl (fun t ht hW => ⟨⟨0, 0, rfl, rfl, Or.inl ⟨by first | omega | decide, by first | omega | decide, by omega, by rw [ht]; exact hP9, va_K.moved hW.alike hK9, hD9⟩⟩, hS.F ht⟩) hS.2.2 dX12_trains_19
  · skip
    have fc2 : ¬ (ra1.toInt = 0) := fun h9 => c2 (Int32.toInt_inj.mp h9)
    refine lv_iload_n hx hb dX12_trains_10 rfl (lv_at hl 1 rfl) ?_
    refine lv_aload_n hx hb dX12_trains_11 rfl (lv_at hl 0 rfl) ?_
    refine va_get (D := (dC, dI)) (ci := 12) (v := .int v11) (C := RX12) (T := TX12) (N := 48) hx hb hts (fun _ h => List.mem_cons_of_mem _ (List.mem_append_right _ h)) hown hK hP 0 rfl rfl 27 (by decide) (hts (.fieldLink RX12 62 "LeftArgumentsModel" "training" "I") (List.mem_cons_of_mem _ (List.mem_append_left _ (List.mem_of_getElem? (i := 4) rfl)))) (fun _ h9 => h9) rfl dX12_trains_12 ?_
    refine lv_icmp_ne (tgt := 20) hx hb dX12_trains_15 (by decide) (fun c3 => ?_) (fun c3 => ?_)
    · skip
      have fc3 : ¬ (v20.toInt = v11.toInt) := fun h9 => c3 (Int32.toInt_inj.mp h9)
      have r1c3 := Int32.toInt_lt v20
      have r2c3 := Int32.toInt_lt v11
      have r3c3 := Int32.le_toInt v20
      have r4c3 := Int32.le_toInt v11
      refine lv_aload_n hx hb dX12_trains_20 rfl (lv_at hl 0 rfl) ?_
      refine lv_iload_n hx hb dX12_trains_21 rfl (lv_at hl 1 rfl) ?_
      refine va_put (D := (dC, dI)) (ci := 12) (v := .int v20) (ty := .int) (C := RX12) (T := TX12) (N := 48) hx hb hts (fun _ h => List.mem_cons_of_mem _ (List.mem_append_right _ h)) tyX12 tyX12_ok nmX12 hown hK hP hD hS 0 rfl rfl 27 (by decide) (hts (.fieldLink RX12 62 "LeftArgumentsModel" "training" "I") (List.mem_cons_of_mem _ (List.mem_append_left _ (List.mem_of_getElem? (i := 4) rfl)))) (fun _ h9 => h9) rfl (by decide +kernel) rfl rfl (Nat.le_of_ble_eq_true rfl) dX12_trains_22 (fun H locs hP hD hS => ?_)
      have hP : va_P (dC, dI) vwCl (wd_171f232f h0 v0 r0 v1 v2 v3 v4 r1 r2 r3 r4 r5 r6 r7 v5 v6 r8 r9 r10 r11 v7 r12 r13 v8 v9 r14 r15 v10 v20 r16 v12 v13 r17 v14 w15 r18 v16 v17 r19 r20 r21 r22 r23 r24 v18 r25 r26 r27 v19) H := hP
      have hD : va_D A (wd_171f232f h0 v0 r0 v1 v2 v3 v4 r1 r2 r3 r4 r5 r6 r7 v5 v6 r8 r9 r10 r11 v7 r12 r13 v8 v9 r14 r15 v10 v20 r16 v12 v13 r17 v14 w15 r18 v16 v17 r19 r20 r21 r22 r23 r24 v18 r25 r26 r27 v19) := hD
      refine lv_iconst (v := 1) hx hb dX12_trains_25 (by decide) ?_
      subst hQ
      have hP9 := hP.sub (ws' := (wd_171f232f h0 v0 r0 v1 v2 v3 v4 r1 r2 r3 r4 r5 r6 r7 v5 v6 r8 r9 r10 r11 v7 r12 r13 v8 v9 r14 r15 v10 v20 r16 v12 v13 r17 v14 w15 r18 v16 v17 r19 r20 r21 r22 r23 r24 v18 r25 r26 r27 v19)) [0] rfl
      have hD9 := hD.sub (ws' := (wd_171f232f h0 v0 r0 v1 v2 v3 v4 r1 r2 r3 r4 r5 r6 r7 v5 v6 r8 r9 r10 r11 v7 r12 r13 v8 v9 r14 r15 v10 v20 r16 v12 v13 r17 v14 w15 r18 v16 v17 r19 r20 r21 r22 r23 r24 v18 r25 r26 r27 v19)) [0] (by decide) rfl
      have hK9 := hK.sub (tys' := []) [] rfl
      exact W.zret (v := 1) hx hb hr rfl (fun t ht hW => ⟨⟨1, 1, rfl, rfl, Or.inr (⟨v20, by first | omega | decide, by first | omega | decide, by first | omega | decide, by first | omega | decide, by refine ⟨?_, ?_, ?_⟩ <;> omega, by rfl, by rw [ht]; exact hP9, va_K.moved hW.alike hK9, hD9⟩)⟩, hS.F ht⟩) hS.2.2 dX12_trains_26
    · skip
      have fc3 : v20.toInt = v11.toInt := congrArg Int32.toInt c3
      have r1c3 := Int32.toInt_lt v20
      have r2c3 := Int32.toInt_lt v11
      have r3c3 := Int32.le_toInt v20
      have r4c3 := Int32.le_toInt v11
      refine lv_iconst (v := 0) hx hb dX12_trains_18 (by decide) ?_
      subst hQ
      have hP9 := hP.sub (ws' := (wd_171f232f h0 v0 r0 v1 v2 v3 v4 r1 r2 r3 r4 r5 r6 r7 v5 v6 r8 r9 r10 r11 v7 r12 r13 v8 v9 r14 r15 v10 v11 r16 v12 v13 r17 v14 w15 r18 v16 v17 r19 r20 r21 r22 r23 r24 v18 r25 r26 r27 v19)) [0] rfl
      have hD9 := hD.sub (ws' := (wd_171f232f h0 v0 r0 v1 v2 v3 v4 r1 r2 r3 r4 r5 r6 r7 v5 v6 r8 r9 r10 r11 v7 r12 r13 v8 v9 r14 r15 v10 v11 r16 v12 v13 r17 v14 w15 r18 v16 v17 r19 r20 r21 r22 r23 r24 v18 r25 r26 r27 v19)) [0] (by decide) rfl
      have hK9 := hK.sub (tys' := []) [] rfl
      exact W.zret (v := 0) hx hb hr rfl (fun t ht hW => ⟨⟨0, 0, rfl, rfl, Or.inl ⟨by first | omega | decide, by first | omega | decide, by omega, by rw [ht]; exact hP9, va_K.moved hW.alike hK9, hD9⟩⟩, hS.F ht⟩) hS.2.2 dX12_trains_19
def q_X12_in_3 : List Cond := .code yX12_in cX12_in 3 (some .boolean) :: (([] : List Cond))
set_option maxHeartbeats 4000000 in
set_option maxRecDepth 100000 in
theorem k_X12_in_3 (l : Launch) (dC : Nat → ClassId) (dI : Nat → Nat → Nat) (v0 : Int32) (sz : Nat) : Met l yX12_in q_X12_in_3 ({ frames := 0, cells := 0, slots := 0, locals := 0 }) (va_Pc [.int v0, .int 0, .int 7] (fun U => U.heap.size = sz ∧ va_P (dC, dI) vwCl [] U.heap ∧ va_K (dC, dI) vwCl [] U ∧ va_D (fun _ => True) [])) (va_Qi (fun (r : Int32) (r9 : Int32) => r9 = r) (fun (r : Int32) (t : State) => ((0 ≤ r.toInt) ∧ (r.toInt ≤ 1) ∧ ((r.toInt = 1 → 0 ≤ v0.toInt)) ∧ ((r.toInt = 1 → v0.toInt ≤ 7)) ∧ (r.toInt = 0 → ¬ (0 ≤ v0.toInt ∧ v0.toInt ≤ 7)) ∧ va_P (dC, dI) vwCl [] t.heap ∧ va_K (dC, dI) vwCl [] t ∧ va_D (va_A [] sz) [])) (va_A [] sz)) 0 0 (va_A [] sz) := by
  refine Met.ofW (cc := cX12_in) (maxL := 3) (ret := (some .boolean)) (by decide) rfl ?_
  intro p e s m args below meth c s₁ B hml hv
  obtain ⟨rfl, hsz, hP, hK, hD0⟩ := hv
  have hx := B.exec
  have hb := B.bytes
  have hr := B.returns
  have hts := atoms_spec (ws := q_X12_in_3) B.pre
  have hown : s.vm.findClass RX12 = some m.cls := findClass_of_methodNamed B.named
  have hlocks := B.notSynchronized
  subst hsz
  have hD := hD0.self (sz := s.heap.size)
  generalize hAe : va_A [] s.heap.size = A at hD ⊢
  have hA : ∀ q : Nat, s.heap.size ≤ q → A q := fun q h => by rw [← hAe]; exact Or.inr h
  have hS : va_S A s.heap s.heap [] := va_S.rf
  generalize hQ : (MQ below _ _ s 0 0 A) = Q
  have hl := lv_entry ([.int v0, .int 0, .int 7]) (n := 3) (Nat.le_of_ble_eq_true rfl)
  rw [lg_entry_eq]
  generalize (lg_sl ([.int v0, .int 0, .int 7]) ++ List.replicate (3 - (lg_sl ([.int v0, .int 0, .int 7])).length) Slot.unset).toArray = ls at hl ⊢
  have hl : lv_has ls 3 [(0, .int v0), (1, .int 0), (2, .int 7)] := hl
  obtain ⟨H, hH⟩ : ∃ H : Heap, H = s.heap := ⟨_, rfl⟩
  obtain ⟨locs, hlocs⟩ : ∃ y : List Loc, y = [] := ⟨_, rfl⟩
  have hS : va_S A s.heap H locs := by rw [hH, hlocs]; exact va_S.rf
  have hP : va_P (dC, dI) vwCl [] H := by rw [hH]; exact hP
  rw [← hH, ← hlocs]
  refine lv_iload_n hx hb dX12_in_0 rfl (lv_at hl 0 rfl) ?_
  refine lv_iload_n hx hb dX12_in_1 rfl (lv_at hl 1 rfl) ?_
  refine lv_icmp_lt (tgt := 14) hx hb dX12_in_2 (by decide) (fun c1 => ?_) (fun c1 => ?_)
  · skip
    have fc1 : v0.toInt < 0 := Int32.lt_iff_toInt_lt.mp c1
    refine lv_iconst (v := 0) hx hb dX12_in_14 (by decide) ?_
    subst hQ
    have hP9 := hP.sub (ws' := []) [] rfl
    have hD9 := hD.sub (ws' := []) [] (by decide) rfl
    have hK9 := hK.sub (tys' := []) [] rfl
    exact W.zret (v := 0) hx hb hr rfl (fun t ht hW => ⟨⟨0, 0, rfl, rfl, ⟨by first | omega | decide, by first | omega | decide, fun h9 => absurd h9 (by decide), fun h9 => absurd h9 (by decide), fun _ => by omega, by rw [ht]; exact hP9, va_K.moved hW.alike hK9, hD9⟩⟩, hS.F ht⟩) hS.2.2 dX12_in_15
  · skip
    have fc1 : ¬ (v0.toInt < 0) := fun h9 => c1 (Int32.lt_iff_toInt_lt.mpr h9)
    refine lv_iload_n hx hb dX12_in_5 rfl (lv_at hl 0 rfl) ?_
    refine lv_iload_n hx hb dX12_in_6 rfl (lv_at hl 2 rfl) ?_
    refine lv_icmp_gt (tgt := 14) hx hb dX12_in_7 (by decide) (fun c2 => ?_) (fun c2 => ?_)
    · skip
      have fc2 : 7 < v0.toInt := Int32.lt_iff_toInt_lt.mp c2
      refine lv_iconst (v := 0) hx hb dX12_in_14 (by decide) ?_
      subst hQ
      have hP9 := hP.sub (ws' := []) [] rfl
      have hD9 := hD.sub (ws' := []) [] (by decide) rfl
      have hK9 := hK.sub (tys' := []) [] rfl
      exact W.zret (v := 0) hx hb hr rfl (fun t ht hW => ⟨⟨0, 0, rfl, rfl, ⟨by first | omega | decide, by first | omega | decide, fun h9 => absurd h9 (by decide), fun h9 => absurd h9 (by decide), fun _ => by omega, by rw [ht]; exact hP9, va_K.moved hW.alike hK9, hD9⟩⟩, hS.F ht⟩) hS.2.2 dX12_in_15
    · skip
      have fc2 : ¬ (7 < v0.toInt) := fun h9 => c2 (Int32.lt_iff_toInt_lt.mpr h9)
      refine lv_iconst (v := 1) hx hb dX12_in_10 (by decide) ?_
      refine lv_goto (tgt := 15) hx hb dX12_in_11 (by decide) ?_
      subst hQ
      have hP9 := hP.sub (ws' := []) [] rfl
      have hD9 := hD.sub (ws' := []) [] (by decide) rfl
      have hK9 := hK.sub (tys' := []) [] rfl
      exact W.zret (v := 1) hx hb hr rfl (fun t ht hW => ⟨⟨1, 1, rfl, rfl, ⟨by first | omega | decide, by first | omega | decide, fun _ => by omega, fun _ => by omega, fun h9 => absurd h9 (by decide), by rw [ht]; exact hP9, va_K.moved hW.alike hK9, hD9⟩⟩, hS.F ht⟩) hS.2.2 dX12_in_15
def q_X12_of : List Cond := .code yX12_of cX12_of 3 (some .int) :: (([.fieldLink RX12 52 "LeftArgumentsModel" "now" "[I"] : List Cond) ++ wsX120)
set_option maxHeartbeats 4000000 in
set_option maxRecDepth 100000 in
theorem k_X12_of (l : Launch) (dC : Nat → ClassId) (dI : Nat → Nat → Nat) (h0 : Nat) (h1 : Nat) (v0 : Int32) (r0 : Nat) (v1 : Int32) (v2 : Int32) (v3 : Int32) (v4 : Int32) (r1 : Nat) (r2 : Nat) (r3 : Nat) (r4 : Nat) (r5 : Nat) (r6 : Nat) (r7 : Nat) (v5 : Int32) (v6 : Int32) (r8 : Nat) (r9 : Nat) (r10 : Nat) (r11 : Nat) (v7 : Int32) (r12 : Nat) (r13 : Nat) (v8 : Int32) (v9 : Int32) (r14 : Nat) (v10 : Int32) (v11 : Int32) (r15 : Nat) (v12 : Int32) (v13 : Int32) (r16 : Nat) (v14 : Int32) (w15 : Int64) (r17 : Nat) (v16 : Int32) (v17 : Int32) (r18 : Nat) (r19 : Nat) (r20 : Nat) (r21 : Nat) (r22 : Nat) (r23 : Nat) (v18 : Int32) (r24 : Nat) (r25 : Nat) (r26 : Nat) (v19 : Int32) (g0 : ClassId) (f20 : Nat → Int32) (v21 : Int32) (i_v1 : 0 ≤ v1.toInt ∧ v1.toInt ≤ 240) (i_v5 : 0 ≤ v5.toInt ∧ v5.toInt ≤ 4) (i_v6 : 0 ≤ v6.toInt ∧ v6.toInt ≤ 4) (i_v7 : 0 ≤ v7.toInt ∧ v7.toInt ≤ 8) (i_v8 : 0 ≤ v8.toInt ∧ v8.toInt ≤ 8) (i_v9 : 0 ≤ v9.toInt ∧ v9.toInt ≤ 1) (i_v10 : -1 ≤ v10.toInt ∧ v10.toInt ≤ 3) (i_v14 : 0 ≤ v14.toInt ∧ v14.toInt ≤ 40) (i_v18 : 0 ≤ v18.toInt ∧ v18.toInt ≤ 10) (i_v19 : 0 ≤ v19.toInt ∧ v19.toInt ≤ 1) (i_v21 : 0 ≤ v21.toInt ∧ v21.toInt ≤ 7) (ia_f20 : (pm_NW0 f20)) (sz : Nat) : Met l yX12_of q_X12_of ({ frames := 0, cells := 0, slots := 0, locals := 0 }) (va_Pc [.ref h0, .int v21, .int 7] (fun U => U.heap.size = sz ∧ va_P (dC, dI) vwCl (wd_5013416a h0 v0 r0 v1 v2 v3 v4 r1 r2 r3 r4 r5 r6 r7 v5 v6 r8 r9 r10 r11 v7 r12 r13 v8 v9 h1 r14 v10 v11 r15 v12 v13 r16 v14 w15 r17 v16 v17 r18 r19 r20 r21 r22 r23 v18 r24 r25 r26 v19 h1 g0 f20) U.heap ∧ va_K (dC, dI) vwCl [(g0, .int)] U ∧ va_D (fun _ => True) (wd_5013416a h0 v0 r0 v1 v2 v3 v4 r1 r2 r3 r4 r5 r6 r7 v5 v6 r8 r9 r10 r11 v7 r12 r13 v8 v9 h1 r14 v10 v11 r15 v12 v13 r16 v14 w15 r17 v16 v17 r18 r19 r20 r21 r22 r23 v18 r24 r25 r26 v19 h1 g0 f20))) (va_Qi (fun (r : Int32) (r9 : Int32) => r9 = r) (fun (r : Int32) (t : State) => ((r = f20 (pm_I v21 7)) ∧ va_P (dC, dI) vwCl (wd_5013416a h0 v0 r0 v1 v2 v3 v4 r1 r2 r3 r4 r5 r6 r7 v5 v6 r8 r9 r10 r11 v7 r12 r13 v8 v9 h1 r14 v10 v11 r15 v12 v13 r16 v14 w15 r17 v16 v17 r18 r19 r20 r21 r22 r23 v18 r24 r25 r26 v19 h1 g0 f20) t.heap ∧ va_K (dC, dI) vwCl [] t ∧ va_D (va_A (wd_5013416a h0 v0 r0 v1 v2 v3 v4 r1 r2 r3 r4 r5 r6 r7 v5 v6 r8 r9 r10 r11 v7 r12 r13 v8 v9 h1 r14 v10 v11 r15 v12 v13 r16 v14 w15 r17 v16 v17 r18 r19 r20 r21 r22 r23 v18 r24 r25 r26 v19 h1 g0 f20) sz) (wd_5013416a h0 v0 r0 v1 v2 v3 v4 r1 r2 r3 r4 r5 r6 r7 v5 v6 r8 r9 r10 r11 v7 r12 r13 v8 v9 h1 r14 v10 v11 r15 v12 v13 r16 v14 w15 r17 v16 v17 r18 r19 r20 r21 r22 r23 v18 r24 r25 r26 v19 h1 g0 f20))) (va_A (wd_5013416a h0 v0 r0 v1 v2 v3 v4 r1 r2 r3 r4 r5 r6 r7 v5 v6 r8 r9 r10 r11 v7 r12 r13 v8 v9 h1 r14 v10 v11 r15 v12 v13 r16 v14 w15 r17 v16 v17 r18 r19 r20 r21 r22 r23 v18 r24 r25 r26 v19 h1 g0 f20) sz)) 0 0 (va_A (wd_5013416a h0 v0 r0 v1 v2 v3 v4 r1 r2 r3 r4 r5 r6 r7 v5 v6 r8 r9 r10 r11 v7 r12 r13 v8 v9 h1 r14 v10 v11 r15 v12 v13 r16 v14 w15 r17 v16 v17 r18 r19 r20 r21 r22 r23 v18 r24 r25 r26 v19 h1 g0 f20) sz) := by
  refine Met.ofW (cc := cX12_of) (maxL := 3) (ret := (some .int)) (by decide) rfl ?_
  intro p e s m args below meth c s₁ B hml hv
  obtain ⟨i_v1a, i_v1b⟩ := i_v1
  obtain ⟨i_v5a, i_v5b⟩ := i_v5
  obtain ⟨i_v6a, i_v6b⟩ := i_v6
  obtain ⟨i_v7a, i_v7b⟩ := i_v7
  obtain ⟨i_v8a, i_v8b⟩ := i_v8
  obtain ⟨i_v9a, i_v9b⟩ := i_v9
  obtain ⟨i_v10a, i_v10b⟩ := i_v10
  obtain ⟨i_v14a, i_v14b⟩ := i_v14
  obtain ⟨i_v18a, i_v18b⟩ := i_v18
  obtain ⟨i_v19a, i_v19b⟩ := i_v19
  obtain ⟨i_v21a, i_v21b⟩ := i_v21
  obtain ⟨rfl, hsz, hP, hK, hD0⟩ := hv
  have hx := B.exec
  have hb := B.bytes
  have hr := B.returns
  have hts := atoms_spec (ws := q_X12_of) B.pre
  have hown : s.vm.findClass RX12 = some m.cls := findClass_of_methodNamed B.named
  have hlocks := B.notSynchronized
  subst hsz
  have hD := hD0.self (sz := s.heap.size)
  generalize hAe : va_A (wd_5013416a h0 v0 r0 v1 v2 v3 v4 r1 r2 r3 r4 r5 r6 r7 v5 v6 r8 r9 r10 r11 v7 r12 r13 v8 v9 h1 r14 v10 v11 r15 v12 v13 r16 v14 w15 r17 v16 v17 r18 r19 r20 r21 r22 r23 v18 r24 r25 r26 v19 h1 g0 f20) s.heap.size = A at hD ⊢
  have hA : ∀ q : Nat, s.heap.size ≤ q → A q := fun q h => by rw [← hAe]; exact Or.inr h
  have hS : va_S A s.heap s.heap [] := va_S.rf
  generalize hQ : (MQ below _ _ s 0 0 A) = Q
  have hl := lv_entry ([.ref h0, .int v21, .int 7]) (n := 3) (Nat.le_of_ble_eq_true rfl)
  rw [lg_entry_eq]
  generalize (lg_sl ([.ref h0, .int v21, .int 7]) ++ List.replicate (3 - (lg_sl ([.ref h0, .int v21, .int 7])).length) Slot.unset).toArray = ls at hl ⊢
  have hl : lv_has ls 3 [(0, .ref h0), (1, .int v21), (2, .int 7)] := hl
  obtain ⟨H, hH⟩ : ∃ H : Heap, H = s.heap := ⟨_, rfl⟩
  obtain ⟨locs, hlocs⟩ : ∃ y : List Loc, y = [] := ⟨_, rfl⟩
  have hS : va_S A s.heap H locs := by rw [hH, hlocs]; exact va_S.rf
  have hP : va_P (dC, dI) vwCl (wd_5013416a h0 v0 r0 v1 v2 v3 v4 r1 r2 r3 r4 r5 r6 r7 v5 v6 r8 r9 r10 r11 v7 r12 r13 v8 v9 h1 r14 v10 v11 r15 v12 v13 r16 v14 w15 r17 v16 v17 r18 r19 r20 r21 r22 r23 v18 r24 r25 r26 v19 h1 g0 f20) H := by rw [hH]; exact hP
  rw [← hH, ← hlocs]
  refine lv_aload_n hx hb dX12_of_0 rfl (lv_at hl 0 rfl) ?_
  refine va_get (D := (dC, dI)) (ci := 12) (v := .ref h1) (C := RX12) (T := TX12) (N := 48) hx hb hts (fun _ h => List.mem_cons_of_mem _ (List.mem_append_right _ h)) hown hK hP 0 rfl rfl 24 (by decide) (hts (.fieldLink RX12 52 "LeftArgumentsModel" "now" "[I") (List.mem_cons_of_mem _ (List.mem_append_left _ (List.mem_of_getElem? (i := 0) rfl)))) (fun _ h9 => h9) rfl dX12_of_1 ?_
  refine lv_bipush (v := 8) hx hb dX12_of_4 (by decide) ?_
  refine lv_iload_n hx hb dX12_of_6 rfl (lv_at hl 1 rfl) ?_
  refine lv_imul hx hb dX12_of_7 ?_
  refine lv_topi (fun t1 et1 => ?_)
  have gt1 : t1.toInt = 8 * v21.toInt := pv_mul (a := 8) (b := v21.toInt) et1 (by decide) rfl (by omega) (by omega)
  refine lv_iload_n hx hb dX12_of_8 rfl (lv_at hl 2 rfl) ?_
  refine lv_iadd hx hb dX12_of_9 ?_
  refine lv_topi (fun t2 et2 => ?_)
  have gt2 : t2.toInt = t1.toInt + 7 := pv_add (a := t1.toInt) (b := 7) et2 rfl (by decide) (by omega) (by omega)
  refine va_iald hx hb hK hP 1 0 rfl rfl (vp_in_iff.mpr ⟨by omega, by omega⟩) dX12_of_10 ?_
  refine lv_topi (fun t3 et3 => ?_)
  subst hQ
  have hP9 := hP.sub (ws' := (wd_5013416a h0 v0 r0 v1 v2 v3 v4 r1 r2 r3 r4 r5 r6 r7 v5 v6 r8 r9 r10 r11 v7 r12 r13 v8 v9 h1 r14 v10 v11 r15 v12 v13 r16 v14 w15 r17 v16 v17 r18 r19 r20 r21 r22 r23 v18 r24 r25 r26 v19 h1 g0 f20)) [0, 1] rfl
  have hD9 := hD.sub (ws' := (wd_5013416a h0 v0 r0 v1 v2 v3 v4 r1 r2 r3 r4 r5 r6 r7 v5 v6 r8 r9 r10 r11 v7 r12 r13 v8 v9 h1 r14 v10 v11 r15 v12 v13 r16 v14 w15 r17 v16 v17 r18 r19 r20 r21 r22 r23 v18 r24 r25 r26 v19 h1 g0 f20)) [0, 1] (by decide) rfl
  have hK9 := hK.sub (tys' := []) [] rfl
  exact W.iret (v := t3) hx hb hr (fun t ht hW => ⟨⟨t3, t3, rfl, rfl, ⟨by subst_vars; rfl, by rw [ht]; exact hP9, va_K.moved hW.alike hK9, hD9⟩⟩, hS.F ht⟩) hS.2.2 dX12_of_11
def q_X12_isThere : List Cond := .code yX12_isThere cX12_isThere 2 (some .boolean) :: (([.code yX12_in cX12_in 3 (some .boolean), .initialized RX12, .static yX12_in, .methodLink RX12 217 yX12_in, .code yX12_of cX12_of 3 (some .int), .fieldLink RX12 52 "LeftArgumentsModel" "now" "[I", .instanceMethod yX12_of, .selects RX12 yX12_of yX12_of, .methodLink RX12 287 yX12_of] : List Cond) ++ wsX120)
set_option maxRecDepth 20000 in
theorem g_X12_isThere_0 : GoodIn q_X12_isThere (va_wsS RX12 217 yX12_in q_X12_in_3) := goodIn_app (goodIn_r _ [4, 3, 2] rfl (by decide +kernel)) (goodIn_r (.code yX12_in cX12_in 3 (some .boolean) :: []) [1] rfl (by decide +kernel))
set_option maxRecDepth 20000 in
theorem g_X12_isThere_1 : GoodIn q_X12_isThere (wsV RX12 287 RX12 yX12_of q_X12_of) := goodIn_app (goodIn_r _ [9, 7, 8, 2] rfl (by decide +kernel)) (goodIn_ca (goodIn_r (.code yX12_of cX12_of 3 (some .int) :: [.fieldLink RX12 52 "LeftArgumentsModel" "now" "[I"]) [5, 6] rfl (by decide +kernel)) (goodIn_sub (fun _ h => List.mem_cons_of_mem _ (List.mem_append_right _ h)) gwX12))
set_option maxHeartbeats 4000000 in
set_option maxRecDepth 100000 in
theorem k_X12_isThere (l : Launch) (dC : Nat → ClassId) (dI : Nat → Nat → Nat) (h0 : Nat) (h1 : Nat) (v0 : Int32) (r0 : Nat) (v1 : Int32) (v2 : Int32) (v3 : Int32) (v4 : Int32) (r1 : Nat) (r2 : Nat) (r3 : Nat) (r4 : Nat) (r5 : Nat) (r6 : Nat) (r7 : Nat) (v5 : Int32) (v6 : Int32) (r8 : Nat) (r9 : Nat) (r10 : Nat) (r11 : Nat) (v7 : Int32) (r12 : Nat) (r13 : Nat) (v8 : Int32) (v9 : Int32) (r14 : Nat) (v10 : Int32) (v11 : Int32) (r15 : Nat) (v12 : Int32) (v13 : Int32) (r16 : Nat) (v14 : Int32) (w15 : Int64) (r17 : Nat) (v16 : Int32) (v17 : Int32) (r18 : Nat) (r19 : Nat) (r20 : Nat) (r21 : Nat) (r22 : Nat) (r23 : Nat) (v18 : Int32) (r24 : Nat) (r25 : Nat) (r26 : Nat) (v19 : Int32) (g0 : ClassId) (f20 : Nat → Int32) (v21 : Int32) (i_v1 : 0 ≤ v1.toInt ∧ v1.toInt ≤ 240) (i_v5 : 0 ≤ v5.toInt ∧ v5.toInt ≤ 4) (i_v6 : 0 ≤ v6.toInt ∧ v6.toInt ≤ 4) (i_v7 : 0 ≤ v7.toInt ∧ v7.toInt ≤ 8) (i_v8 : 0 ≤ v8.toInt ∧ v8.toInt ≤ 8) (i_v9 : 0 ≤ v9.toInt ∧ v9.toInt ≤ 1) (i_v10 : -1 ≤ v10.toInt ∧ v10.toInt ≤ 3) (i_v14 : 0 ≤ v14.toInt ∧ v14.toInt ≤ 40) (i_v18 : 0 ≤ v18.toInt ∧ v18.toInt ≤ 10) (i_v19 : 0 ≤ v19.toInt ∧ v19.toInt ≤ 1) (ia_f20 : (pm_NW0 f20)) (sz : Nat) : Met l yX12_isThere q_X12_isThere ({ frames := 1, cells := 0, slots := 0, locals := 22 }) (va_Pc [.ref h0, .int v21] (fun U => U.heap.size = sz ∧ va_P (dC, dI) vwCl (wd_5013416a h0 v0 r0 v1 v2 v3 v4 r1 r2 r3 r4 r5 r6 r7 v5 v6 r8 r9 r10 r11 v7 r12 r13 v8 v9 h1 r14 v10 v11 r15 v12 v13 r16 v14 w15 r17 v16 v17 r18 r19 r20 r21 r22 r23 v18 r24 r25 r26 v19 h1 g0 f20) U.heap ∧ va_K (dC, dI) vwCl [(g0, .int)] U ∧ va_D (fun _ => True) (wd_5013416a h0 v0 r0 v1 v2 v3 v4 r1 r2 r3 r4 r5 r6 r7 v5 v6 r8 r9 r10 r11 v7 r12 r13 v8 v9 h1 r14 v10 v11 r15 v12 v13 r16 v14 w15 r17 v16 v17 r18 r19 r20 r21 r22 r23 v18 r24 r25 r26 v19 h1 g0 f20))) (va_Qi (fun (r : Int32) (r9 : Int32) => r9 = r) (fun (r : Int32) (t : State) => ((0 ≤ r.toInt) ∧ (r.toInt ≤ 1) ∧ ((r.toInt = 1 → 0 ≤ v21.toInt)) ∧ ((r.toInt = 1 → v21.toInt ≤ 7)) ∧ (r.toInt = 1 → f20 (pm_I v21 7) = 1) ∧ (r.toInt = 0 → 0 ≤ v21.toInt → v21.toInt ≤ 7 → ¬ f20 (pm_I v21 7) = 1) ∧ va_P (dC, dI) vwCl (wd_5013416a h0 v0 r0 v1 v2 v3 v4 r1 r2 r3 r4 r5 r6 r7 v5 v6 r8 r9 r10 r11 v7 r12 r13 v8 v9 h1 r14 v10 v11 r15 v12 v13 r16 v14 w15 r17 v16 v17 r18 r19 r20 r21 r22 r23 v18 r24 r25 r26 v19 h1 g0 f20) t.heap ∧ va_K (dC, dI) vwCl [] t ∧ va_D (va_A (wd_5013416a h0 v0 r0 v1 v2 v3 v4 r1 r2 r3 r4 r5 r6 r7 v5 v6 r8 r9 r10 r11 v7 r12 r13 v8 v9 h1 r14 v10 v11 r15 v12 v13 r16 v14 w15 r17 v16 v17 r18 r19 r20 r21 r22 r23 v18 r24 r25 r26 v19 h1 g0 f20) sz) (wd_5013416a h0 v0 r0 v1 v2 v3 v4 r1 r2 r3 r4 r5 r6 r7 v5 v6 r8 r9 r10 r11 v7 r12 r13 v8 v9 h1 r14 v10 v11 r15 v12 v13 r16 v14 w15 r17 v16 v17 r18 r19 r20 r21 r22 r23 v18 r24 r25 r26 v19 h1 g0 f20))) (va_A (wd_5013416a h0 v0 r0 v1 v2 v3 v4 r1 r2 r3 r4 r5 r6 r7 v5 v6 r8 r9 r10 r11 v7 r12 r13 v8 v9 h1 r14 v10 v11 r15 v12 v13 r16 v14 w15 r17 v16 v17 r18 r19 r20 r21 r22 r23 v18 r24 r25 r26 v19 h1 g0 f20) sz)) 0 0 (va_A (wd_5013416a h0 v0 r0 v1 v2 v3 v4 r1 r2 r3 r4 r5 r6 r7 v5 v6 r8 r9 r10 r11 v7 r12 r13 v8 v9 h1 r14 v10 v11 r15 v12 v13 r16 v14 w15 r17 v16 v17 r18 r19 r20 r21 r22 r23 v18 r24 r25 r26 v19 h1 g0 f20) sz) := by
  refine Met.ofW (cc := cX12_isThere) (maxL := 2) (ret := (some .boolean)) (by decide) rfl ?_
  intro p e s m args below meth c s₁ B hml hv
  obtain ⟨i_v1a, i_v1b⟩ := i_v1
  obtain ⟨i_v5a, i_v5b⟩ := i_v5
  obtain ⟨i_v6a, i_v6b⟩ := i_v6
  obtain ⟨i_v7a, i_v7b⟩ := i_v7
  obtain ⟨i_v8a, i_v8b⟩ := i_v8
  obtain ⟨i_v9a, i_v9b⟩ := i_v9
  obtain ⟨i_v10a, i_v10b⟩ := i_v10
  obtain ⟨i_v14a, i_v14b⟩ := i_v14
  obtain ⟨i_v18a, i_v18b⟩ := i_v18
  obtain ⟨i_v19a, i_v19b⟩ := i_v19
  obtain ⟨rfl, hsz, hP, hK, hD0⟩ := hv
  have hx := B.exec
  have hb := B.bytes
  have hr := B.returns
  have hts := atoms_spec (ws := q_X12_isThere) B.pre
  have hown : s.vm.findClass RX12 = some m.cls := findClass_of_methodNamed B.named
  have hlocks := B.notSynchronized
  subst hsz
  have hD := hD0.self (sz := s.heap.size)
  generalize hAe : va_A (wd_5013416a h0 v0 r0 v1 v2 v3 v4 r1 r2 r3 r4 r5 r6 r7 v5 v6 r8 r9 r10 r11 v7 r12 r13 v8 v9 h1 r14 v10 v11 r15 v12 v13 r16 v14 w15 r17 v16 v17 r18 r19 r20 r21 r22 r23 v18 r24 r25 r26 v19 h1 g0 f20) s.heap.size = A at hD ⊢
  have hA : ∀ q : Nat, s.heap.size ≤ q → A q := fun q h => by rw [← hAe]; exact Or.inr h
  have hS : va_S A s.heap s.heap [] := va_S.rf
  generalize hQ : (MQ below _ _ s 0 0 A) = Q
  have hl := lv_entry ([.ref h0, .int v21]) (n := 2) (Nat.le_of_ble_eq_true rfl)
  rw [lg_entry_eq]
  generalize (lg_sl ([.ref h0, .int v21]) ++ List.replicate (2 - (lg_sl ([.ref h0, .int v21])).length) Slot.unset).toArray = ls at hl ⊢
  have hl : lv_has ls 2 [(0, .ref h0), (1, .int v21)] := hl
  obtain ⟨H, hH⟩ : ∃ H : Heap, H = s.heap := ⟨_, rfl⟩
  obtain ⟨locs, hlocs⟩ : ∃ y : List Loc, y = [] := ⟨_, rfl⟩
  have hS : va_S A s.heap H locs := by rw [hH, hlocs]; exact va_S.rf
  have hP : va_P (dC, dI) vwCl (wd_5013416a h0 v0 r0 v1 v2 v3 v4 r1 r2 r3 r4 r5 r6 r7 v5 v6 r8 r9 r10 r11 v7 r12 r13 v8 v9 h1 r14 v10 v11 r15 v12 v13 r16 v14 w15 r17 v16 v17 r18 r19 r20 r21 r22 r23 v18 r24 r25 r26 v19 h1 g0 f20) H := by rw [hH]; exact hP
  rw [← hH, ← hlocs]
  refine lv_iload_n hx hb dX12_isThere_0 rfl (lv_at hl 1 rfl) ?_
  refine lv_iconst (v := 0) hx hb dX12_isThere_1 (by decide) ?_
  refine lv_bipush (v := 7) hx hb dX12_isThere_2 (by decide) ?_
  have hPc := hP.sub (ws' := []) [] rfl
  have hDc := hD.sub (ws' := []) [] (by decide) rfl
  have hKc := hK.sub (tys' := []) [] rfl
  have hFc := va_free (wc := []) hD hS hA [] rfl
  refine va_calli (va_runS (As := [.int v21, .int 0, .int 7]) (rest := []) ⟨hx, hb, hml, hown, hts⟩ (k_X12_in_3 l dC dI v21  H.size) (va_cwS 3 hts g_X12_isThere_0 rfl rfl rfl (by decide +kernel) ⟨Nat.le_of_ble_eq_true rfl, Nat.le_of_ble_eq_true rfl⟩) (pv_PS hPc hKc hDc) rfl rfl hl.1 rfl (lv_room (Nat.le_of_ble_eq_true rfl)) dX12_isThere_4 ⟨Nat.le_of_ble_eq_true rfl, Nat.le_of_ble_eq_true rfl⟩) hS (fun q _ h => hFc q h) hFc (fun ra1 u t H1 locs ht hvm hwra1 hB hz1 hk1 hS => ?_)
  try rw [hwra1] at hB
  obtain ⟨pt0_ra1, pt1_ra1, pt2_ra1, pt3_ra1, pt4_ra1, hP1, hK1, hD1⟩ := hB
  rw [ht] at hP1
  obtain ⟨hP2, hD2⟩ := va_join (wr := (wd_5013416a h0 v0 r0 v1 v2 v3 v4 r1 r2 r3 r4 r5 r6 r7 v5 v6 r8 r9 r10 r11 v7 r12 r13 v8 v9 h1 r14 v10 v11 r15 v12 v13 r16 v14 w15 r17 v16 v17 r18 r19 r20 r21 r22 r23 v18 r24 r25 r26 v19 h1 g0 f20)) (w1 := []) hP hD [] [0, 1] rfl rfl (by decide) (by decide) hk1 hFc hP1 hD1
  clear hP hD hPc hDc hKc hFc hP1 hK1 hD1 hk1 hz1
  generalize H1 = H at hP2 hS ⊢
  have hP : va_P (dC, dI) vwCl (wd_5013416a h0 v0 r0 v1 v2 v3 v4 r1 r2 r3 r4 r5 r6 r7 v5 v6 r8 r9 r10 r11 v7 r12 r13 v8 v9 h1 r14 v10 v11 r15 v12 v13 r16 v14 w15 r17 v16 v17 r18 r19 r20 r21 r22 r23 v18 r24 r25 r26 v19 h1 g0 f20) H := hP2
  have hD : va_D A (wd_5013416a h0 v0 r0 v1 v2 v3 v4 r1 r2 r3 r4 r5 r6 r7 v5 v6 r8 r9 r10 r11 v7 r12 r13 v8 v9 h1 r14 v10 v11 r15 v12 v13 r16 v14 w15 r17 v16 v17 r18 r19 r20 r21 r22 r23 v18 r24 r25 r26 v19 h1 g0 f20) := hD2
  clear hP2 hD2
  refine lv_if_eq (tgt := 25) hx hb dX12_isThere_7 (by decide) (fun c2 => ?_) (fun c2 => ?_)
  · skip
    have fc2 : ra1.toInt = 0 := congrArg Int32.toInt c2
    refine lv_iconst (v := 0) hx hb dX12_isThere_25 (by decide) ?_
    subst hQ
    have hP9 := hP.sub (ws' := (wd_5013416a h0 v0 r0 v1 v2 v3 v4 r1 r2 r3 r4 r5 r6 r7 v5 v6 r8 r9 r10 r11 v7 r12 r13 v8 v9 h1 r14 v10 v11 r15 v12 v13 r16 v14 w15 r17 v16 v17 r18 r19 r20 r21 r22 r23 v18 r24 r25 r26 v19 h1 g0 f20)) [0, 1] rfl
    have hD9 := hD.sub (ws' := (wd_5013416a h0 v0 r0 v1 v2 v3 v4 r1 r2 r3 r4 r5 r6 r7 v5 v6 r8 r9 r10 r11 v7 r12 r13 v8 v9 h1 r14 v10 v11 r15 v12 v13 r16 v14 w15 r17 v16 v17 r18 r19 r20 r21 r22 r23 v18 r24 r25 r26 v19 h1 g0 f20)) [0, 1] (by decide) rfl
    have hK9 := hK.sub (tys' := []) [] rfl
    exact W.zret (v := 0) hx hb hr rfl (fun t ht hW => ⟨⟨0, 0, rfl, rfl, ⟨by first | omega | decide, by first | omega | decide, fun h9 => absurd h9 (by decide), fun h9 => absurd h9 (by decide), fun h9 => absurd h9 (by decide), fun _ _ _ => by first | (exfalso; omega) | (apply pm_ne1 <;> assumption), by rw [ht]; exact hP9, va_K.moved hW.alike hK9, hD9⟩⟩, hS.F ht⟩) hS.2.2 dX12_isThere_26
  · skip
    have fc2 : ¬ (ra1.toInt = 0) := fun h9 => c2 (Int32.toInt_inj.mp h9)
    refine lv_aload_n hx hb dX12_isThere_10 rfl (lv_at hl 0 rfl) ?_
    refine lv_iload_n hx hb dX12_isThere_11 rfl (lv_at hl 1 rfl) ?_
    refine lv_bipush (v := 7) hx hb dX12_isThere_12 (by decide) ?_
    have hPc := hP.sub (ws' := (wd_5013416a h0 v0 r0 v1 v2 v3 v4 r1 r2 r3 r4 r5 r6 r7 v5 v6 r8 r9 r10 r11 v7 r12 r13 v8 v9 h1 r14 v10 v11 r15 v12 v13 r16 v14 w15 r17 v16 v17 r18 r19 r20 r21 r22 r23 v18 r24 r25 r26 v19 h1 g0 f20)) [0, 1] rfl
    have hDc := hD.sub (ws' := (wd_5013416a h0 v0 r0 v1 v2 v3 v4 r1 r2 r3 r4 r5 r6 r7 v5 v6 r8 r9 r10 r11 v7 r12 r13 v8 v9 h1 r14 v10 v11 r15 v12 v13 r16 v14 w15 r17 v16 v17 r18 r19 r20 r21 r22 r23 v18 r24 r25 r26 v19 h1 g0 f20)) [0, 1] (by decide) rfl
    have hKc := hK.sub (tys' := [(g0, .int)]) [0] rfl
    have hFc := va_free (wc := (wd_5013416a h0 v0 r0 v1 v2 v3 v4 r1 r2 r3 r4 r5 r6 r7 v5 v6 r8 r9 r10 r11 v7 r12 r13 v8 v9 h1 r14 v10 v11 r15 v12 v13 r16 v14 w15 r17 v16 v17 r18 r19 r20 r21 r22 r23 v18 r24 r25 r26 v19 h1 g0 f20)) hD hS hA [0, 1] rfl
    refine va_calli (va_runV (As := [.int v21, .int 7]) (rest := []) ⟨hx, hb, hml, hown, hts⟩ (k_X12_of l dC dI h0 h1 v0 r0 v1 v2 v3 v4 r1 r2 r3 r4 r5 r6 r7 v5 v6 r8 r9 r10 r11 v7 r12 r13 v8 v9 r14 v10 v11 r15 v12 v13 r16 v14 w15 r17 v16 v17 r18 r19 r20 r21 r22 r23 v18 r24 r25 r26 v19 g0 f20 v21 ⟨i_v1a, i_v1b⟩ ⟨i_v5a, i_v5b⟩ ⟨i_v6a, i_v6b⟩ ⟨i_v7a, i_v7b⟩ ⟨i_v8a, i_v8b⟩ ⟨i_v9a, i_v9b⟩ ⟨i_v10a, i_v10b⟩ ⟨i_v14a, i_v14b⟩ ⟨i_v18a, i_v18b⟩ ⟨i_v19a, i_v19b⟩ ⟨by first | omega | decide, by first | omega | decide⟩ ia_f20 H.size) (cwV 2 hts g_X12_isThere_1 rfl rfl rfl (by decide +kernel) ⟨Nat.le_of_ble_eq_true rfl, Nat.le_of_ble_eq_true rfl⟩) (pv_PV12 hPc hKc hDc (q0 := 0) rfl) rfl rfl hl.1 rfl (lv_room (Nat.le_of_ble_eq_true rfl)) dX12_isThere_14 ⟨Nat.le_of_ble_eq_true rfl, Nat.le_of_ble_eq_true rfl⟩) hS (fun q _ h => hFc q h) hFc (fun ra3 u t H1 locs ht hvm hwra3 hB hz1 hk1 hS => ?_)
    try rw [hwra3] at hB
    obtain ⟨pt0_ra3, hP1, hK1, hD1⟩ := hB
    rw [ht] at hP1
    obtain ⟨hP2, hD2⟩ := va_join (wr := []) (w1 := (wd_5013416a h0 v0 r0 v1 v2 v3 v4 r1 r2 r3 r4 r5 r6 r7 v5 v6 r8 r9 r10 r11 v7 r12 r13 v8 v9 h1 r14 v10 v11 r15 v12 v13 r16 v14 w15 r17 v16 v17 r18 r19 r20 r21 r22 r23 v18 r24 r25 r26 v19 h1 g0 f20)) hP hD [0, 1] [] rfl rfl (by decide) (by decide) hk1 hFc hP1 hD1
    clear hP hD hPc hDc hKc hFc hP1 hK1 hD1 hk1 hz1
    generalize H1 = H at hP2 hS ⊢
    have hP : va_P (dC, dI) vwCl (wd_5013416a h0 v0 r0 v1 v2 v3 v4 r1 r2 r3 r4 r5 r6 r7 v5 v6 r8 r9 r10 r11 v7 r12 r13 v8 v9 h1 r14 v10 v11 r15 v12 v13 r16 v14 w15 r17 v16 v17 r18 r19 r20 r21 r22 r23 v18 r24 r25 r26 v19 h1 g0 f20) H := hP2
    have hD : va_D A (wd_5013416a h0 v0 r0 v1 v2 v3 v4 r1 r2 r3 r4 r5 r6 r7 v5 v6 r8 r9 r10 r11 v7 r12 r13 v8 v9 h1 r14 v10 v11 r15 v12 v13 r16 v14 w15 r17 v16 v17 r18 r19 r20 r21 r22 r23 v18 r24 r25 r26 v19 h1 g0 f20) := hD2
    clear hP2 hD2
    refine lv_iconst (v := 1) hx hb dX12_isThere_17 (by decide) ?_
    refine lv_icmp_ne (tgt := 25) hx hb dX12_isThere_18 (by decide) (fun c4 => ?_) (fun c4 => ?_)
    · skip
      have fc4 : ¬ (ra3.toInt = 1) := fun h9 => c4 (Int32.toInt_inj.mp h9)
      refine lv_iconst (v := 0) hx hb dX12_isThere_25 (by decide) ?_
      subst hQ
      have hP9 := hP.sub (ws' := (wd_5013416a h0 v0 r0 v1 v2 v3 v4 r1 r2 r3 r4 r5 r6 r7 v5 v6 r8 r9 r10 r11 v7 r12 r13 v8 v9 h1 r14 v10 v11 r15 v12 v13 r16 v14 w15 r17 v16 v17 r18 r19 r20 r21 r22 r23 v18 r24 r25 r26 v19 h1 g0 f20)) [0, 1] rfl
      have hD9 := hD.sub (ws' := (wd_5013416a h0 v0 r0 v1 v2 v3 v4 r1 r2 r3 r4 r5 r6 r7 v5 v6 r8 r9 r10 r11 v7 r12 r13 v8 v9 h1 r14 v10 v11 r15 v12 v13 r16 v14 w15 r17 v16 v17 r18 r19 r20 r21 r22 r23 v18 r24 r25 r26 v19 h1 g0 f20)) [0, 1] (by decide) rfl
      have hK9 := hK.sub (tys' := []) [] rfl
      exact W.zret (v := 0) hx hb hr rfl (fun t ht hW => ⟨⟨0, 0, rfl, rfl, ⟨by first | omega | decide, by first | omega | decide, fun h9 => absurd h9 (by decide), fun h9 => absurd h9 (by decide), fun h9 => absurd h9 (by decide), fun _ _ _ => by first | (exfalso; omega) | (apply pm_ne1 <;> assumption), by rw [ht]; exact hP9, va_K.moved hW.alike hK9, hD9⟩⟩, hS.F ht⟩) hS.2.2 dX12_isThere_26
    · skip
      have fc4 : ra3.toInt = 1 := congrArg Int32.toInt c4
      refine lv_iconst (v := 1) hx hb dX12_isThere_21 (by decide) ?_
      refine lv_goto (tgt := 26) hx hb dX12_isThere_22 (by decide) ?_
      subst hQ
      have hP9 := hP.sub (ws' := (wd_5013416a h0 v0 r0 v1 v2 v3 v4 r1 r2 r3 r4 r5 r6 r7 v5 v6 r8 r9 r10 r11 v7 r12 r13 v8 v9 h1 r14 v10 v11 r15 v12 v13 r16 v14 w15 r17 v16 v17 r18 r19 r20 r21 r22 r23 v18 r24 r25 r26 v19 h1 g0 f20)) [0, 1] rfl
      have hD9 := hD.sub (ws' := (wd_5013416a h0 v0 r0 v1 v2 v3 v4 r1 r2 r3 r4 r5 r6 r7 v5 v6 r8 r9 r10 r11 v7 r12 r13 v8 v9 h1 r14 v10 v11 r15 v12 v13 r16 v14 w15 r17 v16 v17 r18 r19 r20 r21 r22 r23 v18 r24 r25 r26 v19 h1 g0 f20)) [0, 1] (by decide) rfl
      have hK9 := hK.sub (tys' := []) [] rfl
      exact W.zret (v := 1) hx hb hr rfl (fun t ht hW => ⟨⟨1, 1, rfl, rfl, ⟨by first | omega | decide, by first | omega | decide, fun _ => by omega, fun _ => by omega, fun _ => by apply pm_eq1 <;> assumption, fun h9 => absurd h9 (by decide), by rw [ht]; exact hP9, va_K.moved hW.alike hK9, hD9⟩⟩, hS.F ht⟩) hS.2.2 dX12_isThere_26
def q_X12_of_1 : List Cond := .code yX12_of cX12_of 3 (some .int) :: (([.fieldLink RX12 52 "LeftArgumentsModel" "now" "[I"] : List Cond) ++ wsX120)
set_option maxHeartbeats 4000000 in
set_option maxRecDepth 100000 in
theorem k_X12_of_1 (l : Launch) (dC : Nat → ClassId) (dI : Nat → Nat → Nat) (h0 : Nat) (h1 : Nat) (v0 : Int32) (r0 : Nat) (v1 : Int32) (v2 : Int32) (v3 : Int32) (v4 : Int32) (r1 : Nat) (r2 : Nat) (r3 : Nat) (r4 : Nat) (r5 : Nat) (r6 : Nat) (r7 : Nat) (v5 : Int32) (v6 : Int32) (r8 : Nat) (r9 : Nat) (r10 : Nat) (r11 : Nat) (v7 : Int32) (r12 : Nat) (r13 : Nat) (v8 : Int32) (v9 : Int32) (r14 : Nat) (v10 : Int32) (v11 : Int32) (r15 : Nat) (v12 : Int32) (v13 : Int32) (r16 : Nat) (v14 : Int32) (w15 : Int64) (r17 : Nat) (v16 : Int32) (v17 : Int32) (r18 : Nat) (r19 : Nat) (r20 : Nat) (r21 : Nat) (r22 : Nat) (r23 : Nat) (v18 : Int32) (r24 : Nat) (r25 : Nat) (r26 : Nat) (v19 : Int32) (g0 : ClassId) (f20 : Nat → Int32) (v21 : Int32) (i_v1 : 0 ≤ v1.toInt ∧ v1.toInt ≤ 240) (i_v5 : 0 ≤ v5.toInt ∧ v5.toInt ≤ 4) (i_v6 : 0 ≤ v6.toInt ∧ v6.toInt ≤ 4) (i_v7 : 0 ≤ v7.toInt ∧ v7.toInt ≤ 8) (i_v8 : 0 ≤ v8.toInt ∧ v8.toInt ≤ 8) (i_v9 : 0 ≤ v9.toInt ∧ v9.toInt ≤ 1) (i_v10 : -1 ≤ v10.toInt ∧ v10.toInt ≤ 3) (i_v14 : 0 ≤ v14.toInt ∧ v14.toInt ≤ 40) (i_v18 : 0 ≤ v18.toInt ∧ v18.toInt ≤ 10) (i_v19 : 0 ≤ v19.toInt ∧ v19.toInt ≤ 1) (i_v21 : 0 ≤ v21.toInt ∧ v21.toInt ≤ 7) (ia_f20 : (pm_NW0 f20)) (sz : Nat) : Met l yX12_of q_X12_of_1 ({ frames := 0, cells := 0, slots := 0, locals := 0 }) (va_Pc [.ref h0, .int v21, .int 1] (fun U => U.heap.size = sz ∧ va_P (dC, dI) vwCl (wd_5013416a h0 v0 r0 v1 v2 v3 v4 r1 r2 r3 r4 r5 r6 r7 v5 v6 r8 r9 r10 r11 v7 r12 r13 v8 v9 h1 r14 v10 v11 r15 v12 v13 r16 v14 w15 r17 v16 v17 r18 r19 r20 r21 r22 r23 v18 r24 r25 r26 v19 h1 g0 f20) U.heap ∧ va_K (dC, dI) vwCl [(g0, .int)] U ∧ va_D (fun _ => True) (wd_5013416a h0 v0 r0 v1 v2 v3 v4 r1 r2 r3 r4 r5 r6 r7 v5 v6 r8 r9 r10 r11 v7 r12 r13 v8 v9 h1 r14 v10 v11 r15 v12 v13 r16 v14 w15 r17 v16 v17 r18 r19 r20 r21 r22 r23 v18 r24 r25 r26 v19 h1 g0 f20))) (va_Qi (fun (r : Int32) (r9 : Int32) => r9 = r) (fun (r : Int32) (t : State) => ((r = f20 (pm_I v21 1)) ∧ va_P (dC, dI) vwCl (wd_5013416a h0 v0 r0 v1 v2 v3 v4 r1 r2 r3 r4 r5 r6 r7 v5 v6 r8 r9 r10 r11 v7 r12 r13 v8 v9 h1 r14 v10 v11 r15 v12 v13 r16 v14 w15 r17 v16 v17 r18 r19 r20 r21 r22 r23 v18 r24 r25 r26 v19 h1 g0 f20) t.heap ∧ va_K (dC, dI) vwCl [] t ∧ va_D (va_A (wd_5013416a h0 v0 r0 v1 v2 v3 v4 r1 r2 r3 r4 r5 r6 r7 v5 v6 r8 r9 r10 r11 v7 r12 r13 v8 v9 h1 r14 v10 v11 r15 v12 v13 r16 v14 w15 r17 v16 v17 r18 r19 r20 r21 r22 r23 v18 r24 r25 r26 v19 h1 g0 f20) sz) (wd_5013416a h0 v0 r0 v1 v2 v3 v4 r1 r2 r3 r4 r5 r6 r7 v5 v6 r8 r9 r10 r11 v7 r12 r13 v8 v9 h1 r14 v10 v11 r15 v12 v13 r16 v14 w15 r17 v16 v17 r18 r19 r20 r21 r22 r23 v18 r24 r25 r26 v19 h1 g0 f20))) (va_A (wd_5013416a h0 v0 r0 v1 v2 v3 v4 r1 r2 r3 r4 r5 r6 r7 v5 v6 r8 r9 r10 r11 v7 r12 r13 v8 v9 h1 r14 v10 v11 r15 v12 v13 r16 v14 w15 r17 v16 v17 r18 r19 r20 r21 r22 r23 v18 r24 r25 r26 v19 h1 g0 f20) sz)) 0 0 (va_A (wd_5013416a h0 v0 r0 v1 v2 v3 v4 r1 r2 r3 r4 r5 r6 r7 v5 v6 r8 r9 r10 r11 v7 r12 r13 v8 v9 h1 r14 v10 v11 r15 v12 v13 r16 v14 w15 r17 v16 v17 r18 r19 r20 r21 r22 r23 v18 r24 r25 r26 v19 h1 g0 f20) sz) := by
  refine Met.ofW (cc := cX12_of) (maxL := 3) (ret := (some .int)) (by decide) rfl ?_
  intro p e s m args below meth c s₁ B hml hv
  obtain ⟨i_v1a, i_v1b⟩ := i_v1
  obtain ⟨i_v5a, i_v5b⟩ := i_v5
  obtain ⟨i_v6a, i_v6b⟩ := i_v6
  obtain ⟨i_v7a, i_v7b⟩ := i_v7
  obtain ⟨i_v8a, i_v8b⟩ := i_v8
  obtain ⟨i_v9a, i_v9b⟩ := i_v9
  obtain ⟨i_v10a, i_v10b⟩ := i_v10
  obtain ⟨i_v14a, i_v14b⟩ := i_v14
  obtain ⟨i_v18a, i_v18b⟩ := i_v18
  obtain ⟨i_v19a, i_v19b⟩ := i_v19
  obtain ⟨i_v21a, i_v21b⟩ := i_v21
  obtain ⟨rfl, hsz, hP, hK, hD0⟩ := hv
  have hx := B.exec
  have hb := B.bytes
  have hr := B.returns
  have hts := atoms_spec (ws := q_X12_of_1) B.pre
  have hown : s.vm.findClass RX12 = some m.cls := findClass_of_methodNamed B.named
  have hlocks := B.notSynchronized
  subst hsz
  have hD := hD0.self (sz := s.heap.size)
  generalize hAe : va_A (wd_5013416a h0 v0 r0 v1 v2 v3 v4 r1 r2 r3 r4 r5 r6 r7 v5 v6 r8 r9 r10 r11 v7 r12 r13 v8 v9 h1 r14 v10 v11 r15 v12 v13 r16 v14 w15 r17 v16 v17 r18 r19 r20 r21 r22 r23 v18 r24 r25 r26 v19 h1 g0 f20) s.heap.size = A at hD ⊢
  have hA : ∀ q : Nat, s.heap.size ≤ q → A q := fun q h => by rw [← hAe]; exact Or.inr h
  have hS : va_S A s.heap s.heap [] := va_S.rf
  generalize hQ : (MQ below _ _ s 0 0 A) = Q
  have hl := lv_entry ([.ref h0, .int v21, .int 1]) (n := 3) (Nat.le_of_ble_eq_true rfl)
  rw [lg_entry_eq]
  generalize (lg_sl ([.ref h0, .int v21, .int 1]) ++ List.replicate (3 - (lg_sl ([.ref h0, .int v21, .int 1])).length) Slot.unset).toArray = ls at hl ⊢
  have hl : lv_has ls 3 [(0, .ref h0), (1, .int v21), (2, .int 1)] := hl
  obtain ⟨H, hH⟩ : ∃ H : Heap, H = s.heap := ⟨_, rfl⟩
  obtain ⟨locs, hlocs⟩ : ∃ y : List Loc, y = [] := ⟨_, rfl⟩
  have hS : va_S A s.heap H locs := by rw [hH, hlocs]; exact va_S.rf
  have hP : va_P (dC, dI) vwCl (wd_5013416a h0 v0 r0 v1 v2 v3 v4 r1 r2 r3 r4 r5 r6 r7 v5 v6 r8 r9 r10 r11 v7 r12 r13 v8 v9 h1 r14 v10 v11 r15 v12 v13 r16 v14 w15 r17 v16 v17 r18 r19 r20 r21 r22 r23 v18 r24 r25 r26 v19 h1 g0 f20) H := by rw [hH]; exact hP
  rw [← hH, ← hlocs]
  refine lv_aload_n hx hb dX12_of_0 rfl (lv_at hl 0 rfl) ?_
  refine va_get (D := (dC, dI)) (ci := 12) (v := .ref h1) (C := RX12) (T := TX12) (N := 48) hx hb hts (fun _ h => List.mem_cons_of_mem _ (List.mem_append_right _ h)) hown hK hP 0 rfl rfl 24 (by decide) (hts (.fieldLink RX12 52 "LeftArgumentsModel" "now" "[I") (List.mem_cons_of_mem _ (List.mem_append_left _ (List.mem_of_getElem? (i := 0) rfl)))) (fun _ h9 => h9) rfl dX12_of_1 ?_
  refine lv_bipush (v := 8) hx hb dX12_of_4 (by decide) ?_
  refine lv_iload_n hx hb dX12_of_6 rfl (lv_at hl 1 rfl) ?_
  refine lv_imul hx hb dX12_of_7 ?_
  refine lv_topi (fun t1 et1 => ?_)
  have gt1 : t1.toInt = 8 * v21.toInt := pv_mul (a := 8) (b := v21.toInt) et1 (by decide) rfl (by omega) (by omega)
  refine lv_iload_n hx hb dX12_of_8 rfl (lv_at hl 2 rfl) ?_
  refine lv_iadd hx hb dX12_of_9 ?_
  refine lv_topi (fun t2 et2 => ?_)
  have gt2 : t2.toInt = t1.toInt + 1 := pv_add (a := t1.toInt) (b := 1) et2 rfl (by decide) (by omega) (by omega)
  refine va_iald hx hb hK hP 1 0 rfl rfl (vp_in_iff.mpr ⟨by omega, by omega⟩) dX12_of_10 ?_
  refine lv_topi (fun t3 et3 => ?_)
  subst hQ
  have hP9 := hP.sub (ws' := (wd_5013416a h0 v0 r0 v1 v2 v3 v4 r1 r2 r3 r4 r5 r6 r7 v5 v6 r8 r9 r10 r11 v7 r12 r13 v8 v9 h1 r14 v10 v11 r15 v12 v13 r16 v14 w15 r17 v16 v17 r18 r19 r20 r21 r22 r23 v18 r24 r25 r26 v19 h1 g0 f20)) [0, 1] rfl
  have hD9 := hD.sub (ws' := (wd_5013416a h0 v0 r0 v1 v2 v3 v4 r1 r2 r3 r4 r5 r6 r7 v5 v6 r8 r9 r10 r11 v7 r12 r13 v8 v9 h1 r14 v10 v11 r15 v12 v13 r16 v14 w15 r17 v16 v17 r18 r19 r20 r21 r22 r23 v18 r24 r25 r26 v19 h1 g0 f20)) [0, 1] (by decide) rfl
  have hK9 := hK.sub (tys' := []) [] rfl
  exact W.iret (v := t3) hx hb hr (fun t ht hW => ⟨⟨t3, t3, rfl, rfl, ⟨by subst_vars; rfl, by rw [ht]; exact hP9, va_K.moved hW.alike hK9, hD9⟩⟩, hS.F ht⟩) hS.2.2 dX12_of_11
def q_X12_of_2 : List Cond := .code yX12_of cX12_of 3 (some .int) :: (([.fieldLink RX12 52 "LeftArgumentsModel" "now" "[I"] : List Cond) ++ wsX120)
set_option maxHeartbeats 4000000 in
set_option maxRecDepth 100000 in
theorem k_X12_of_2 (l : Launch) (dC : Nat → ClassId) (dI : Nat → Nat → Nat) (h0 : Nat) (h1 : Nat) (v0 : Int32) (r0 : Nat) (v1 : Int32) (v2 : Int32) (v3 : Int32) (v4 : Int32) (r1 : Nat) (r2 : Nat) (r3 : Nat) (r4 : Nat) (r5 : Nat) (r6 : Nat) (r7 : Nat) (v5 : Int32) (v6 : Int32) (r8 : Nat) (r9 : Nat) (r10 : Nat) (r11 : Nat) (v7 : Int32) (r12 : Nat) (r13 : Nat) (v8 : Int32) (v9 : Int32) (r14 : Nat) (v10 : Int32) (v11 : Int32) (r15 : Nat) (v12 : Int32) (v13 : Int32) (r16 : Nat) (v14 : Int32) (w15 : Int64) (r17 : Nat) (v16 : Int32) (v17 : Int32) (r18 : Nat) (r19 : Nat) (r20 : Nat) (r21 : Nat) (r22 : Nat) (r23 : Nat) (v18 : Int32) (r24 : Nat) (r25 : Nat) (r26 : Nat) (v19 : Int32) (g0 : ClassId) (f20 : Nat → Int32) (v21 : Int32) (i_v1 : 0 ≤ v1.toInt ∧ v1.toInt ≤ 240) (i_v5 : 0 ≤ v5.toInt ∧ v5.toInt ≤ 4) (i_v6 : 0 ≤ v6.toInt ∧ v6.toInt ≤ 4) (i_v7 : 0 ≤ v7.toInt ∧ v7.toInt ≤ 8) (i_v8 : 0 ≤ v8.toInt ∧ v8.toInt ≤ 8) (i_v9 : 0 ≤ v9.toInt ∧ v9.toInt ≤ 1) (i_v10 : -1 ≤ v10.toInt ∧ v10.toInt ≤ 3) (i_v14 : 0 ≤ v14.toInt ∧ v14.toInt ≤ 40) (i_v18 : 0 ≤ v18.toInt ∧ v18.toInt ≤ 10) (i_v19 : 0 ≤ v19.toInt ∧ v19.toInt ≤ 1) (i_v21 : 0 ≤ v21.toInt ∧ v21.toInt ≤ 7) (ia_f20 : (pm_NW0 f20)) (sz : Nat) : Met l yX12_of q_X12_of_2 ({ frames := 0, cells := 0, slots := 0, locals := 0 }) (va_Pc [.ref h0, .int v21, .int 2] (fun U => U.heap.size = sz ∧ va_P (dC, dI) vwCl (wd_5013416a h0 v0 r0 v1 v2 v3 v4 r1 r2 r3 r4 r5 r6 r7 v5 v6 r8 r9 r10 r11 v7 r12 r13 v8 v9 h1 r14 v10 v11 r15 v12 v13 r16 v14 w15 r17 v16 v17 r18 r19 r20 r21 r22 r23 v18 r24 r25 r26 v19 h1 g0 f20) U.heap ∧ va_K (dC, dI) vwCl [(g0, .int)] U ∧ va_D (fun _ => True) (wd_5013416a h0 v0 r0 v1 v2 v3 v4 r1 r2 r3 r4 r5 r6 r7 v5 v6 r8 r9 r10 r11 v7 r12 r13 v8 v9 h1 r14 v10 v11 r15 v12 v13 r16 v14 w15 r17 v16 v17 r18 r19 r20 r21 r22 r23 v18 r24 r25 r26 v19 h1 g0 f20))) (va_Qi (fun (r : Int32) (r9 : Int32) => r9 = r) (fun (r : Int32) (t : State) => ((r = f20 (pm_I v21 2)) ∧ va_P (dC, dI) vwCl (wd_5013416a h0 v0 r0 v1 v2 v3 v4 r1 r2 r3 r4 r5 r6 r7 v5 v6 r8 r9 r10 r11 v7 r12 r13 v8 v9 h1 r14 v10 v11 r15 v12 v13 r16 v14 w15 r17 v16 v17 r18 r19 r20 r21 r22 r23 v18 r24 r25 r26 v19 h1 g0 f20) t.heap ∧ va_K (dC, dI) vwCl [] t ∧ va_D (va_A (wd_5013416a h0 v0 r0 v1 v2 v3 v4 r1 r2 r3 r4 r5 r6 r7 v5 v6 r8 r9 r10 r11 v7 r12 r13 v8 v9 h1 r14 v10 v11 r15 v12 v13 r16 v14 w15 r17 v16 v17 r18 r19 r20 r21 r22 r23 v18 r24 r25 r26 v19 h1 g0 f20) sz) (wd_5013416a h0 v0 r0 v1 v2 v3 v4 r1 r2 r3 r4 r5 r6 r7 v5 v6 r8 r9 r10 r11 v7 r12 r13 v8 v9 h1 r14 v10 v11 r15 v12 v13 r16 v14 w15 r17 v16 v17 r18 r19 r20 r21 r22 r23 v18 r24 r25 r26 v19 h1 g0 f20))) (va_A (wd_5013416a h0 v0 r0 v1 v2 v3 v4 r1 r2 r3 r4 r5 r6 r7 v5 v6 r8 r9 r10 r11 v7 r12 r13 v8 v9 h1 r14 v10 v11 r15 v12 v13 r16 v14 w15 r17 v16 v17 r18 r19 r20 r21 r22 r23 v18 r24 r25 r26 v19 h1 g0 f20) sz)) 0 0 (va_A (wd_5013416a h0 v0 r0 v1 v2 v3 v4 r1 r2 r3 r4 r5 r6 r7 v5 v6 r8 r9 r10 r11 v7 r12 r13 v8 v9 h1 r14 v10 v11 r15 v12 v13 r16 v14 w15 r17 v16 v17 r18 r19 r20 r21 r22 r23 v18 r24 r25 r26 v19 h1 g0 f20) sz) := by
  refine Met.ofW (cc := cX12_of) (maxL := 3) (ret := (some .int)) (by decide) rfl ?_
  intro p e s m args below meth c s₁ B hml hv
  obtain ⟨i_v1a, i_v1b⟩ := i_v1
  obtain ⟨i_v5a, i_v5b⟩ := i_v5
  obtain ⟨i_v6a, i_v6b⟩ := i_v6
  obtain ⟨i_v7a, i_v7b⟩ := i_v7
  obtain ⟨i_v8a, i_v8b⟩ := i_v8
  obtain ⟨i_v9a, i_v9b⟩ := i_v9
  obtain ⟨i_v10a, i_v10b⟩ := i_v10
  obtain ⟨i_v14a, i_v14b⟩ := i_v14
  obtain ⟨i_v18a, i_v18b⟩ := i_v18
  obtain ⟨i_v19a, i_v19b⟩ := i_v19
  obtain ⟨i_v21a, i_v21b⟩ := i_v21
  obtain ⟨rfl, hsz, hP, hK, hD0⟩ := hv
  have hx := B.exec
  have hb := B.bytes
  have hr := B.returns
  have hts := atoms_spec (ws := q_X12_of_2) B.pre
  have hown : s.vm.findClass RX12 = some m.cls := findClass_of_methodNamed B.named
  have hlocks := B.notSynchronized
  subst hsz
  have hD := hD0.self (sz := s.heap.size)
  generalize hAe : va_A (wd_5013416a h0 v0 r0 v1 v2 v3 v4 r1 r2 r3 r4 r5 r6 r7 v5 v6 r8 r9 r10 r11 v7 r12 r13 v8 v9 h1 r14 v10 v11 r15 v12 v13 r16 v14 w15 r17 v16 v17 r18 r19 r20 r21 r22 r23 v18 r24 r25 r26 v19 h1 g0 f20) s.heap.size = A at hD ⊢
  have hA : ∀ q : Nat, s.heap.size ≤ q → A q := fun q h => by rw [← hAe]; exact Or.inr h
  have hS : va_S A s.heap s.heap [] := va_S.rf
  generalize hQ : (MQ below _ _ s 0 0 A) = Q
  have hl := lv_entry ([.ref h0, .int v21, .int 2]) (n := 3) (Nat.le_of_ble_eq_true rfl)
  rw [lg_entry_eq]
  generalize (lg_sl ([.ref h0, .int v21, .int 2]) ++ List.replicate (3 - (lg_sl ([.ref h0, .int v21, .int 2])).length) Slot.unset).toArray = ls at hl ⊢
  have hl : lv_has ls 3 [(0, .ref h0), (1, .int v21), (2, .int 2)] := hl
  obtain ⟨H, hH⟩ : ∃ H : Heap, H = s.heap := ⟨_, rfl⟩
  obtain ⟨locs, hlocs⟩ : ∃ y : List Loc, y = [] := ⟨_, rfl⟩
  have hS : va_S A s.heap H locs := by rw [hH, hlocs]; exact va_S.rf
  have hP : va_P (dC, dI) vwCl (wd_5013416a h0 v0 r0 v1 v2 v3 v4 r1 r2 r3 r4 r5 r6 r7 v5 v6 r8 r9 r10 r11 v7 r12 r13 v8 v9 h1 r14 v10 v11 r15 v12 v13 r16 v14 w15 r17 v16 v17 r18 r19 r20 r21 r22 r23 v18 r24 r25 r26 v19 h1 g0 f20) H := by rw [hH]; exact hP
  rw [← hH, ← hlocs]
  refine lv_aload_n hx hb dX12_of_0 rfl (lv_at hl 0 rfl) ?_
  refine va_get (D := (dC, dI)) (ci := 12) (v := .ref h1) (C := RX12) (T := TX12) (N := 48) hx hb hts (fun _ h => List.mem_cons_of_mem _ (List.mem_append_right _ h)) hown hK hP 0 rfl rfl 24 (by decide) (hts (.fieldLink RX12 52 "LeftArgumentsModel" "now" "[I") (List.mem_cons_of_mem _ (List.mem_append_left _ (List.mem_of_getElem? (i := 0) rfl)))) (fun _ h9 => h9) rfl dX12_of_1 ?_
  refine lv_bipush (v := 8) hx hb dX12_of_4 (by decide) ?_
  refine lv_iload_n hx hb dX12_of_6 rfl (lv_at hl 1 rfl) ?_
  refine lv_imul hx hb dX12_of_7 ?_
  refine lv_topi (fun t1 et1 => ?_)
  have gt1 : t1.toInt = 8 * v21.toInt := pv_mul (a := 8) (b := v21.toInt) et1 (by decide) rfl (by omega) (by omega)
  refine lv_iload_n hx hb dX12_of_8 rfl (lv_at hl 2 rfl) ?_
  refine lv_iadd hx hb dX12_of_9 ?_
  refine lv_topi (fun t2 et2 => ?_)
  have gt2 : t2.toInt = t1.toInt + 2 := pv_add (a := t1.toInt) (b := 2) et2 rfl (by decide) (by omega) (by omega)
  refine va_iald hx hb hK hP 1 0 rfl rfl (vp_in_iff.mpr ⟨by omega, by omega⟩) dX12_of_10 ?_
  refine lv_topi (fun t3 et3 => ?_)
  subst hQ
  have hP9 := hP.sub (ws' := (wd_5013416a h0 v0 r0 v1 v2 v3 v4 r1 r2 r3 r4 r5 r6 r7 v5 v6 r8 r9 r10 r11 v7 r12 r13 v8 v9 h1 r14 v10 v11 r15 v12 v13 r16 v14 w15 r17 v16 v17 r18 r19 r20 r21 r22 r23 v18 r24 r25 r26 v19 h1 g0 f20)) [0, 1] rfl
  have hD9 := hD.sub (ws' := (wd_5013416a h0 v0 r0 v1 v2 v3 v4 r1 r2 r3 r4 r5 r6 r7 v5 v6 r8 r9 r10 r11 v7 r12 r13 v8 v9 h1 r14 v10 v11 r15 v12 v13 r16 v14 w15 r17 v16 v17 r18 r19 r20 r21 r22 r23 v18 r24 r25 r26 v19 h1 g0 f20)) [0, 1] (by decide) rfl
  have hK9 := hK.sub (tys' := []) [] rfl
  exact W.iret (v := t3) hx hb hr (fun t ht hW => ⟨⟨t3, t3, rfl, rfl, ⟨by subst_vars; rfl, by rw [ht]; exact hP9, va_K.moved hW.alike hK9, hD9⟩⟩, hS.F ht⟩) hS.2.2 dX12_of_11
def q_X12_stubbornOf : List Cond := .code yX12_stubbornOf cX12_stubbornOf 2 (some .int) :: (([.code yX12_of cX12_of 3 (some .int), .fieldLink RX12 52 "LeftArgumentsModel" "now" "[I", .initialized RX12, .instanceMethod yX12_of, .selects RX12 yX12_of yX12_of, .methodLink RX12 287 yX12_of] : List Cond) ++ wsX120)
set_option maxRecDepth 20000 in
theorem g_X12_stubbornOf_0 : GoodIn q_X12_stubbornOf (wsV RX12 287 RX12 yX12_of q_X12_of_1) := goodIn_app (goodIn_r _ [6, 4, 5, 3] rfl (by decide +kernel)) (goodIn_ca (goodIn_r (.code yX12_of cX12_of 3 (some .int) :: [.fieldLink RX12 52 "LeftArgumentsModel" "now" "[I"]) [1, 2] rfl (by decide +kernel)) (goodIn_sub (fun _ h => List.mem_cons_of_mem _ (List.mem_append_right _ h)) gwX12))
set_option maxRecDepth 20000 in
theorem g_X12_stubbornOf_1 : GoodIn q_X12_stubbornOf (wsV RX12 287 RX12 yX12_of q_X12_of_2) := goodIn_app (goodIn_r _ [6, 4, 5, 3] rfl (by decide +kernel)) (goodIn_ca (goodIn_r (.code yX12_of cX12_of 3 (some .int) :: [.fieldLink RX12 52 "LeftArgumentsModel" "now" "[I"]) [1, 2] rfl (by decide +kernel)) (goodIn_sub (fun _ h => List.mem_cons_of_mem _ (List.mem_append_right _ h)) gwX12))
set_option maxHeartbeats 4000000 in
set_option maxRecDepth 100000 in
theorem k_X12_stubbornOf (l : Launch) (dC : Nat → ClassId) (dI : Nat → Nat → Nat) (h0 : Nat) (h1 : Nat) (v0 : Int32) (r0 : Nat) (v1 : Int32) (v2 : Int32) (v3 : Int32) (v4 : Int32) (r1 : Nat) (r2 : Nat) (r3 : Nat) (r4 : Nat) (r5 : Nat) (r6 : Nat) (r7 : Nat) (v5 : Int32) (v6 : Int32) (r8 : Nat) (r9 : Nat) (r10 : Nat) (r11 : Nat) (v7 : Int32) (r12 : Nat) (r13 : Nat) (v8 : Int32) (v9 : Int32) (r14 : Nat) (v10 : Int32) (v11 : Int32) (r15 : Nat) (v12 : Int32) (v13 : Int32) (r16 : Nat) (v14 : Int32) (w15 : Int64) (r17 : Nat) (v16 : Int32) (v17 : Int32) (r18 : Nat) (r19 : Nat) (r20 : Nat) (r21 : Nat) (r22 : Nat) (r23 : Nat) (v18 : Int32) (r24 : Nat) (r25 : Nat) (r26 : Nat) (v19 : Int32) (g0 : ClassId) (f20 : Nat → Int32) (v21 : Int32) (i_v1 : 0 ≤ v1.toInt ∧ v1.toInt ≤ 240) (i_v5 : 0 ≤ v5.toInt ∧ v5.toInt ≤ 4) (i_v6 : 0 ≤ v6.toInt ∧ v6.toInt ≤ 4) (i_v7 : 0 ≤ v7.toInt ∧ v7.toInt ≤ 8) (i_v8 : 0 ≤ v8.toInt ∧ v8.toInt ≤ 8) (i_v9 : 0 ≤ v9.toInt ∧ v9.toInt ≤ 1) (i_v10 : -1 ≤ v10.toInt ∧ v10.toInt ≤ 3) (i_v14 : 0 ≤ v14.toInt ∧ v14.toInt ≤ 40) (i_v18 : 0 ≤ v18.toInt ∧ v18.toInt ≤ 10) (i_v19 : 0 ≤ v19.toInt ∧ v19.toInt ≤ 1) (i_v21 : 0 ≤ v21.toInt ∧ v21.toInt ≤ 7) (ia_f20 : (pm_NW f20)) (sz : Nat) : Met l yX12_stubbornOf q_X12_stubbornOf ({ frames := 1, cells := 0, slots := 0, locals := 22 }) (va_Pc [.ref h0, .int v21] (fun U => U.heap.size = sz ∧ va_P (dC, dI) vwCl (wd_5013416a h0 v0 r0 v1 v2 v3 v4 r1 r2 r3 r4 r5 r6 r7 v5 v6 r8 r9 r10 r11 v7 r12 r13 v8 v9 h1 r14 v10 v11 r15 v12 v13 r16 v14 w15 r17 v16 v17 r18 r19 r20 r21 r22 r23 v18 r24 r25 r26 v19 h1 g0 f20) U.heap ∧ va_K (dC, dI) vwCl [(g0, .int)] U ∧ va_D (fun _ => True) (wd_5013416a h0 v0 r0 v1 v2 v3 v4 r1 r2 r3 r4 r5 r6 r7 v5 v6 r8 r9 r10 r11 v7 r12 r13 v8 v9 h1 r14 v10 v11 r15 v12 v13 r16 v14 w15 r17 v16 v17 r18 r19 r20 r21 r22 r23 v18 r24 r25 r26 v19 h1 g0 f20))) (va_Qi (fun (r : Int32) (r9 : Int32) => r9 = r) (fun (r : Int32) (t : State) => (va_P (dC, dI) vwCl (wd_5013416a h0 v0 r0 v1 v2 v3 v4 r1 r2 r3 r4 r5 r6 r7 v5 v6 r8 r9 r10 r11 v7 r12 r13 v8 v9 h1 r14 v10 v11 r15 v12 v13 r16 v14 w15 r17 v16 v17 r18 r19 r20 r21 r22 r23 v18 r24 r25 r26 v19 h1 g0 f20) t.heap ∧ va_K (dC, dI) vwCl [] t ∧ va_D (va_A (wd_5013416a h0 v0 r0 v1 v2 v3 v4 r1 r2 r3 r4 r5 r6 r7 v5 v6 r8 r9 r10 r11 v7 r12 r13 v8 v9 h1 r14 v10 v11 r15 v12 v13 r16 v14 w15 r17 v16 v17 r18 r19 r20 r21 r22 r23 v18 r24 r25 r26 v19 h1 g0 f20) sz) (wd_5013416a h0 v0 r0 v1 v2 v3 v4 r1 r2 r3 r4 r5 r6 r7 v5 v6 r8 r9 r10 r11 v7 r12 r13 v8 v9 h1 r14 v10 v11 r15 v12 v13 r16 v14 w15 r17 v16 v17 r18 r19 r20 r21 r22 r23 v18 r24 r25 r26 v19 h1 g0 f20))) (va_A (wd_5013416a h0 v0 r0 v1 v2 v3 v4 r1 r2 r3 r4 r5 r6 r7 v5 v6 r8 r9 r10 r11 v7 r12 r13 v8 v9 h1 r14 v10 v11 r15 v12 v13 r16 v14 w15 r17 v16 v17 r18 r19 r20 r21 r22 r23 v18 r24 r25 r26 v19 h1 g0 f20) sz)) 0 0 (va_A (wd_5013416a h0 v0 r0 v1 v2 v3 v4 r1 r2 r3 r4 r5 r6 r7 v5 v6 r8 r9 r10 r11 v7 r12 r13 v8 v9 h1 r14 v10 v11 r15 v12 v13 r16 v14 w15 r17 v16 v17 r18 r19 r20 r21 r22 r23 v18 r24 r25 r26 v19 h1 g0 f20) sz) := by
  refine Met.ofW (cc := cX12_stubbornOf) (maxL := 2) (ret := (some .int)) (by decide) rfl ?_
  intro p e s m args below meth c s₁ B hml hv
  obtain ⟨i_v1a, i_v1b⟩ := i_v1
  obtain ⟨i_v5a, i_v5b⟩ := i_v5
  obtain ⟨i_v6a, i_v6b⟩ := i_v6
  obtain ⟨i_v7a, i_v7b⟩ := i_v7
  obtain ⟨i_v8a, i_v8b⟩ := i_v8
  obtain ⟨i_v9a, i_v9b⟩ := i_v9
  obtain ⟨i_v10a, i_v10b⟩ := i_v10
  obtain ⟨i_v14a, i_v14b⟩ := i_v14
  obtain ⟨i_v18a, i_v18b⟩ := i_v18
  obtain ⟨i_v19a, i_v19b⟩ := i_v19
  obtain ⟨i_v21a, i_v21b⟩ := i_v21
  obtain ⟨rfl, hsz, hP, hK, hD0⟩ := hv
  have hx := B.exec
  have hb := B.bytes
  have hr := B.returns
  have hts := atoms_spec (ws := q_X12_stubbornOf) B.pre
  have hown : s.vm.findClass RX12 = some m.cls := findClass_of_methodNamed B.named
  have hlocks := B.notSynchronized
  subst hsz
  have hD := hD0.self (sz := s.heap.size)
  generalize hAe : va_A (wd_5013416a h0 v0 r0 v1 v2 v3 v4 r1 r2 r3 r4 r5 r6 r7 v5 v6 r8 r9 r10 r11 v7 r12 r13 v8 v9 h1 r14 v10 v11 r15 v12 v13 r16 v14 w15 r17 v16 v17 r18 r19 r20 r21 r22 r23 v18 r24 r25 r26 v19 h1 g0 f20) s.heap.size = A at hD ⊢
  have hA : ∀ q : Nat, s.heap.size ≤ q → A q := fun q h => by rw [← hAe]; exact Or.inr h
  have hS : va_S A s.heap s.heap [] := va_S.rf
  generalize hQ : (MQ below _ _ s 0 0 A) = Q
  have hl := lv_entry ([.ref h0, .int v21]) (n := 2) (Nat.le_of_ble_eq_true rfl)
  rw [lg_entry_eq]
  generalize (lg_sl ([.ref h0, .int v21]) ++ List.replicate (2 - (lg_sl ([.ref h0, .int v21])).length) Slot.unset).toArray = ls at hl ⊢
  have hl : lv_has ls 2 [(0, .ref h0), (1, .int v21)] := hl
  obtain ⟨H, hH⟩ : ∃ H : Heap, H = s.heap := ⟨_, rfl⟩
  obtain ⟨locs, hlocs⟩ : ∃ y : List Loc, y = [] := ⟨_, rfl⟩
  have hS : va_S A s.heap H locs := by rw [hH, hlocs]; exact va_S.rf
  have hP : va_P (dC, dI) vwCl (wd_5013416a h0 v0 r0 v1 v2 v3 v4 r1 r2 r3 r4 r5 r6 r7 v5 v6 r8 r9 r10 r11 v7 r12 r13 v8 v9 h1 r14 v10 v11 r15 v12 v13 r16 v14 w15 r17 v16 v17 r18 r19 r20 r21 r22 r23 v18 r24 r25 r26 v19 h1 g0 f20) H := by rw [hH]; exact hP
  rw [← hH, ← hlocs]
  refine lv_aload_n hx hb dX12_stubbornOf_0 rfl (lv_at hl 0 rfl) ?_
  refine lv_iload_n hx hb dX12_stubbornOf_1 rfl (lv_at hl 1 rfl) ?_
  refine lv_iconst (v := 1) hx hb dX12_stubbornOf_2 (by decide) ?_
  have hPc := hP.sub (ws' := (wd_5013416a h0 v0 r0 v1 v2 v3 v4 r1 r2 r3 r4 r5 r6 r7 v5 v6 r8 r9 r10 r11 v7 r12 r13 v8 v9 h1 r14 v10 v11 r15 v12 v13 r16 v14 w15 r17 v16 v17 r18 r19 r20 r21 r22 r23 v18 r24 r25 r26 v19 h1 g0 f20)) [0, 1] rfl
  have hDc := hD.sub (ws' := (wd_5013416a h0 v0 r0 v1 v2 v3 v4 r1 r2 r3 r4 r5 r6 r7 v5 v6 r8 r9 r10 r11 v7 r12 r13 v8 v9 h1 r14 v10 v11 r15 v12 v13 r16 v14 w15 r17 v16 v17 r18 r19 r20 r21 r22 r23 v18 r24 r25 r26 v19 h1 g0 f20)) [0, 1] (by decide) rfl
  have hKc := hK.sub (tys' := [(g0, .int)]) [0] rfl
  have hFc := va_free (wc := (wd_5013416a h0 v0 r0 v1 v2 v3 v4 r1 r2 r3 r4 r5 r6 r7 v5 v6 r8 r9 r10 r11 v7 r12 r13 v8 v9 h1 r14 v10 v11 r15 v12 v13 r16 v14 w15 r17 v16 v17 r18 r19 r20 r21 r22 r23 v18 r24 r25 r26 v19 h1 g0 f20)) hD hS hA [0, 1] rfl
  refine va_calli (va_runV (As := [.int v21, .int 1]) (rest := []) ⟨hx, hb, hml, hown, hts⟩ (k_X12_of_1 l dC dI h0 h1 v0 r0 v1 v2 v3 v4 r1 r2 r3 r4 r5 r6 r7 v5 v6 r8 r9 r10 r11 v7 r12 r13 v8 v9 r14 v10 v11 r15 v12 v13 r16 v14 w15 r17 v16 v17 r18 r19 r20 r21 r22 r23 v18 r24 r25 r26 v19 g0 f20 v21 ⟨i_v1a, i_v1b⟩ ⟨i_v5a, i_v5b⟩ ⟨i_v6a, i_v6b⟩ ⟨i_v7a, i_v7b⟩ ⟨i_v8a, i_v8b⟩ ⟨i_v9a, i_v9b⟩ ⟨i_v10a, i_v10b⟩ ⟨i_v14a, i_v14b⟩ ⟨i_v18a, i_v18b⟩ ⟨i_v19a, i_v19b⟩ ⟨i_v21a, i_v21b⟩ ia_f20.1 H.size) (cwV 2 hts g_X12_stubbornOf_0 rfl rfl rfl (by decide +kernel) ⟨Nat.le_of_ble_eq_true rfl, Nat.le_of_ble_eq_true rfl⟩) (pv_PV12 hPc hKc hDc (q0 := 0) rfl) rfl rfl hl.1 rfl (lv_room (Nat.le_of_ble_eq_true rfl)) dX12_stubbornOf_3 ⟨Nat.le_of_ble_eq_true rfl, Nat.le_of_ble_eq_true rfl⟩) hS (fun q _ h => hFc q h) hFc (fun ra1 u t H1 locs ht hvm hwra1 hB hz1 hk1 hS => ?_)
  try rw [hwra1] at hB
  obtain ⟨pt0_ra1, hP1, hK1, hD1⟩ := hB
  rw [ht] at hP1
  obtain ⟨hP2, hD2⟩ := va_join (wr := []) (w1 := (wd_5013416a h0 v0 r0 v1 v2 v3 v4 r1 r2 r3 r4 r5 r6 r7 v5 v6 r8 r9 r10 r11 v7 r12 r13 v8 v9 h1 r14 v10 v11 r15 v12 v13 r16 v14 w15 r17 v16 v17 r18 r19 r20 r21 r22 r23 v18 r24 r25 r26 v19 h1 g0 f20)) hP hD [0, 1] [] rfl rfl (by decide) (by decide) hk1 hFc hP1 hD1
  clear hP hD hPc hDc hKc hFc hP1 hK1 hD1 hk1 hz1
  generalize H1 = H at hP2 hS ⊢
  have hP : va_P (dC, dI) vwCl (wd_5013416a h0 v0 r0 v1 v2 v3 v4 r1 r2 r3 r4 r5 r6 r7 v5 v6 r8 r9 r10 r11 v7 r12 r13 v8 v9 h1 r14 v10 v11 r15 v12 v13 r16 v14 w15 r17 v16 v17 r18 r19 r20 r21 r22 r23 v18 r24 r25 r26 v19 h1 g0 f20) H := hP2
  have hD : va_D A (wd_5013416a h0 v0 r0 v1 v2 v3 v4 r1 r2 r3 r4 r5 r6 r7 v5 v6 r8 r9 r10 r11 v7 r12 r13 v8 v9 h1 r14 v10 v11 r15 v12 v13 r16 v14 w15 r17 v16 v17 r18 r19 r20 r21 r22 r23 v18 r24 r25 r26 v19 h1 g0 f20) := hD2
  clear hP2 hD2
  refine lv_aload_n hx hb dX12_stubbornOf_6 rfl (lv_at hl 0 rfl) ?_
  refine lv_iload_n hx hb dX12_stubbornOf_7 rfl (lv_at hl 1 rfl) ?_
  refine lv_iconst (v := 2) hx hb dX12_stubbornOf_8 (by decide) ?_
  have hPc := hP.sub (ws' := (wd_5013416a h0 v0 r0 v1 v2 v3 v4 r1 r2 r3 r4 r5 r6 r7 v5 v6 r8 r9 r10 r11 v7 r12 r13 v8 v9 h1 r14 v10 v11 r15 v12 v13 r16 v14 w15 r17 v16 v17 r18 r19 r20 r21 r22 r23 v18 r24 r25 r26 v19 h1 g0 f20)) [0, 1] rfl
  have hDc := hD.sub (ws' := (wd_5013416a h0 v0 r0 v1 v2 v3 v4 r1 r2 r3 r4 r5 r6 r7 v5 v6 r8 r9 r10 r11 v7 r12 r13 v8 v9 h1 r14 v10 v11 r15 v12 v13 r16 v14 w15 r17 v16 v17 r18 r19 r20 r21 r22 r23 v18 r24 r25 r26 v19 h1 g0 f20)) [0, 1] (by decide) rfl
  have hKc := hK.sub (tys' := [(g0, .int)]) [0] rfl
  have hFc := va_free (wc := (wd_5013416a h0 v0 r0 v1 v2 v3 v4 r1 r2 r3 r4 r5 r6 r7 v5 v6 r8 r9 r10 r11 v7 r12 r13 v8 v9 h1 r14 v10 v11 r15 v12 v13 r16 v14 w15 r17 v16 v17 r18 r19 r20 r21 r22 r23 v18 r24 r25 r26 v19 h1 g0 f20)) hD hS hA [0, 1] rfl
  refine va_calli (va_runV (As := [.int v21, .int 2]) (rest := [.int ra1]) ⟨hx, hb, hml, hown, hts⟩ (k_X12_of_2 l dC dI h0 h1 v0 r0 v1 v2 v3 v4 r1 r2 r3 r4 r5 r6 r7 v5 v6 r8 r9 r10 r11 v7 r12 r13 v8 v9 r14 v10 v11 r15 v12 v13 r16 v14 w15 r17 v16 v17 r18 r19 r20 r21 r22 r23 v18 r24 r25 r26 v19 g0 f20 v21 ⟨i_v1a, i_v1b⟩ ⟨i_v5a, i_v5b⟩ ⟨i_v6a, i_v6b⟩ ⟨i_v7a, i_v7b⟩ ⟨i_v8a, i_v8b⟩ ⟨i_v9a, i_v9b⟩ ⟨i_v10a, i_v10b⟩ ⟨i_v14a, i_v14b⟩ ⟨i_v18a, i_v18b⟩ ⟨i_v19a, i_v19b⟩ ⟨i_v21a, i_v21b⟩ ia_f20.1 H.size) (cwV 2 hts g_X12_stubbornOf_1 rfl rfl rfl (by decide +kernel) ⟨Nat.le_of_ble_eq_true rfl, Nat.le_of_ble_eq_true rfl⟩) (pv_PV12 hPc hKc hDc (q0 := 0) rfl) rfl rfl hl.1 rfl (lv_room (Nat.le_of_ble_eq_true rfl)) dX12_stubbornOf_9 ⟨Nat.le_of_ble_eq_true rfl, Nat.le_of_ble_eq_true rfl⟩) hS (fun q _ h => hFc q h) hFc (fun ra2 u t H1 locs ht hvm hwra2 hB hz1 hk1 hS => ?_)
  try rw [hwra2] at hB
  obtain ⟨pt0_ra2, hP1, hK1, hD1⟩ := hB
  rw [ht] at hP1
  obtain ⟨hP2, hD2⟩ := va_join (wr := []) (w1 := (wd_5013416a h0 v0 r0 v1 v2 v3 v4 r1 r2 r3 r4 r5 r6 r7 v5 v6 r8 r9 r10 r11 v7 r12 r13 v8 v9 h1 r14 v10 v11 r15 v12 v13 r16 v14 w15 r17 v16 v17 r18 r19 r20 r21 r22 r23 v18 r24 r25 r26 v19 h1 g0 f20)) hP hD [0, 1] [] rfl rfl (by decide) (by decide) hk1 hFc hP1 hD1
  clear hP hD hPc hDc hKc hFc hP1 hK1 hD1 hk1 hz1
  generalize H1 = H at hP2 hS ⊢
  have hP : va_P (dC, dI) vwCl (wd_5013416a h0 v0 r0 v1 v2 v3 v4 r1 r2 r3 r4 r5 r6 r7 v5 v6 r8 r9 r10 r11 v7 r12 r13 v8 v9 h1 r14 v10 v11 r15 v12 v13 r16 v14 w15 r17 v16 v17 r18 r19 r20 r21 r22 r23 v18 r24 r25 r26 v19 h1 g0 f20) H := hP2
  have hD : va_D A (wd_5013416a h0 v0 r0 v1 v2 v3 v4 r1 r2 r3 r4 r5 r6 r7 v5 v6 r8 r9 r10 r11 v7 r12 r13 v8 v9 h1 r14 v10 v11 r15 v12 v13 r16 v14 w15 r17 v16 v17 r18 r19 r20 r21 r22 r23 v18 r24 r25 r26 v19 h1 g0 f20) := hD2
  clear hP2 hD2
  refine lv_iadd hx hb dX12_stubbornOf_12 ?_
  refine lv_topi (fun t3 et3 => ?_)
  subst hQ
  have hP9 := hP.sub (ws' := (wd_5013416a h0 v0 r0 v1 v2 v3 v4 r1 r2 r3 r4 r5 r6 r7 v5 v6 r8 r9 r10 r11 v7 r12 r13 v8 v9 h1 r14 v10 v11 r15 v12 v13 r16 v14 w15 r17 v16 v17 r18 r19 r20 r21 r22 r23 v18 r24 r25 r26 v19 h1 g0 f20)) [0, 1] rfl
  have hD9 := hD.sub (ws' := (wd_5013416a h0 v0 r0 v1 v2 v3 v4 r1 r2 r3 r4 r5 r6 r7 v5 v6 r8 r9 r10 r11 v7 r12 r13 v8 v9 h1 r14 v10 v11 r15 v12 v13 r16 v14 w15 r17 v16 v17 r18 r19 r20 r21 r22 r23 v18 r24 r25 r26 v19 h1 g0 f20)) [0, 1] (by decide) rfl
  have hK9 := hK.sub (tys' := []) [] rfl
  exact W.iret (v := t3) hx hb hr (fun t ht hW => ⟨⟨t3, t3, rfl, rfl, ⟨by rw [ht]; exact hP9, va_K.moved hW.alike hK9, hD9⟩⟩, hS.F ht⟩) hS.2.2 dX12_stubbornOf_13
def q_X12_of_3 : List Cond := .code yX12_of cX12_of 3 (some .int) :: (([.fieldLink RX12 52 "LeftArgumentsModel" "now" "[I"] : List Cond) ++ wsX120)
set_option maxHeartbeats 4000000 in
set_option maxRecDepth 100000 in
theorem k_X12_of_3 (l : Launch) (dC : Nat → ClassId) (dI : Nat → Nat → Nat) (h0 : Nat) (h1 : Nat) (v0 : Int32) (r0 : Nat) (v1 : Int32) (v2 : Int32) (v3 : Int32) (v4 : Int32) (r1 : Nat) (r2 : Nat) (r3 : Nat) (r4 : Nat) (r5 : Nat) (r6 : Nat) (r7 : Nat) (v5 : Int32) (v6 : Int32) (r8 : Nat) (r9 : Nat) (r10 : Nat) (r11 : Nat) (v7 : Int32) (r12 : Nat) (r13 : Nat) (v8 : Int32) (v9 : Int32) (r14 : Nat) (v10 : Int32) (v11 : Int32) (r15 : Nat) (v12 : Int32) (v13 : Int32) (r16 : Nat) (v14 : Int32) (w15 : Int64) (r17 : Nat) (v16 : Int32) (v17 : Int32) (r18 : Nat) (r19 : Nat) (r20 : Nat) (r21 : Nat) (r22 : Nat) (r23 : Nat) (v18 : Int32) (r24 : Nat) (r25 : Nat) (r26 : Nat) (v19 : Int32) (g0 : ClassId) (f20 : Nat → Int32) (v21 : Int32) (i_v1 : 0 ≤ v1.toInt ∧ v1.toInt ≤ 240) (i_v5 : 0 ≤ v5.toInt ∧ v5.toInt ≤ 4) (i_v6 : 0 ≤ v6.toInt ∧ v6.toInt ≤ 4) (i_v7 : 0 ≤ v7.toInt ∧ v7.toInt ≤ 8) (i_v8 : 0 ≤ v8.toInt ∧ v8.toInt ≤ 8) (i_v9 : 0 ≤ v9.toInt ∧ v9.toInt ≤ 1) (i_v10 : -1 ≤ v10.toInt ∧ v10.toInt ≤ 3) (i_v14 : 0 ≤ v14.toInt ∧ v14.toInt ≤ 40) (i_v18 : 0 ≤ v18.toInt ∧ v18.toInt ≤ 10) (i_v19 : 0 ≤ v19.toInt ∧ v19.toInt ≤ 1) (i_v21 : 0 ≤ v21.toInt ∧ v21.toInt ≤ 7) (ia_f20 : (pm_NW0 f20)) (sz : Nat) : Met l yX12_of q_X12_of_3 ({ frames := 0, cells := 0, slots := 0, locals := 0 }) (va_Pc [.ref h0, .int v21, .int 0] (fun U => U.heap.size = sz ∧ va_P (dC, dI) vwCl (wd_5013416a h0 v0 r0 v1 v2 v3 v4 r1 r2 r3 r4 r5 r6 r7 v5 v6 r8 r9 r10 r11 v7 r12 r13 v8 v9 h1 r14 v10 v11 r15 v12 v13 r16 v14 w15 r17 v16 v17 r18 r19 r20 r21 r22 r23 v18 r24 r25 r26 v19 h1 g0 f20) U.heap ∧ va_K (dC, dI) vwCl [(g0, .int)] U ∧ va_D (fun _ => True) (wd_5013416a h0 v0 r0 v1 v2 v3 v4 r1 r2 r3 r4 r5 r6 r7 v5 v6 r8 r9 r10 r11 v7 r12 r13 v8 v9 h1 r14 v10 v11 r15 v12 v13 r16 v14 w15 r17 v16 v17 r18 r19 r20 r21 r22 r23 v18 r24 r25 r26 v19 h1 g0 f20))) (va_Qi (fun (r : Int32) (r9 : Int32) => r9 = r) (fun (r : Int32) (t : State) => ((0 ≤ r.toInt) ∧ (r.toInt ≤ 99) ∧ (r = f20 (pm_I v21 0)) ∧ va_P (dC, dI) vwCl (wd_5013416a h0 v0 r0 v1 v2 v3 v4 r1 r2 r3 r4 r5 r6 r7 v5 v6 r8 r9 r10 r11 v7 r12 r13 v8 v9 h1 r14 v10 v11 r15 v12 v13 r16 v14 w15 r17 v16 v17 r18 r19 r20 r21 r22 r23 v18 r24 r25 r26 v19 h1 g0 f20) t.heap ∧ va_K (dC, dI) vwCl [] t ∧ va_D (va_A (wd_5013416a h0 v0 r0 v1 v2 v3 v4 r1 r2 r3 r4 r5 r6 r7 v5 v6 r8 r9 r10 r11 v7 r12 r13 v8 v9 h1 r14 v10 v11 r15 v12 v13 r16 v14 w15 r17 v16 v17 r18 r19 r20 r21 r22 r23 v18 r24 r25 r26 v19 h1 g0 f20) sz) (wd_5013416a h0 v0 r0 v1 v2 v3 v4 r1 r2 r3 r4 r5 r6 r7 v5 v6 r8 r9 r10 r11 v7 r12 r13 v8 v9 h1 r14 v10 v11 r15 v12 v13 r16 v14 w15 r17 v16 v17 r18 r19 r20 r21 r22 r23 v18 r24 r25 r26 v19 h1 g0 f20))) (va_A (wd_5013416a h0 v0 r0 v1 v2 v3 v4 r1 r2 r3 r4 r5 r6 r7 v5 v6 r8 r9 r10 r11 v7 r12 r13 v8 v9 h1 r14 v10 v11 r15 v12 v13 r16 v14 w15 r17 v16 v17 r18 r19 r20 r21 r22 r23 v18 r24 r25 r26 v19 h1 g0 f20) sz)) 0 0 (va_A (wd_5013416a h0 v0 r0 v1 v2 v3 v4 r1 r2 r3 r4 r5 r6 r7 v5 v6 r8 r9 r10 r11 v7 r12 r13 v8 v9 h1 r14 v10 v11 r15 v12 v13 r16 v14 w15 r17 v16 v17 r18 r19 r20 r21 r22 r23 v18 r24 r25 r26 v19 h1 g0 f20) sz) := by
  refine Met.ofW (cc := cX12_of) (maxL := 3) (ret := (some .int)) (by decide) rfl ?_
  intro p e s m args below meth c s₁ B hml hv
  obtain ⟨i_v1a, i_v1b⟩ := i_v1
  obtain ⟨i_v5a, i_v5b⟩ := i_v5
  obtain ⟨i_v6a, i_v6b⟩ := i_v6
  obtain ⟨i_v7a, i_v7b⟩ := i_v7
  obtain ⟨i_v8a, i_v8b⟩ := i_v8
  obtain ⟨i_v9a, i_v9b⟩ := i_v9
  obtain ⟨i_v10a, i_v10b⟩ := i_v10
  obtain ⟨i_v14a, i_v14b⟩ := i_v14
  obtain ⟨i_v18a, i_v18b⟩ := i_v18
  obtain ⟨i_v19a, i_v19b⟩ := i_v19
  obtain ⟨i_v21a, i_v21b⟩ := i_v21
  obtain ⟨rfl, hsz, hP, hK, hD0⟩ := hv
  have hx := B.exec
  have hb := B.bytes
  have hr := B.returns
  have hts := atoms_spec (ws := q_X12_of_3) B.pre
  have hown : s.vm.findClass RX12 = some m.cls := findClass_of_methodNamed B.named
  have hlocks := B.notSynchronized
  subst hsz
  have hD := hD0.self (sz := s.heap.size)
  generalize hAe : va_A (wd_5013416a h0 v0 r0 v1 v2 v3 v4 r1 r2 r3 r4 r5 r6 r7 v5 v6 r8 r9 r10 r11 v7 r12 r13 v8 v9 h1 r14 v10 v11 r15 v12 v13 r16 v14 w15 r17 v16 v17 r18 r19 r20 r21 r22 r23 v18 r24 r25 r26 v19 h1 g0 f20) s.heap.size = A at hD ⊢
  have hA : ∀ q : Nat, s.heap.size ≤ q → A q := fun q h => by rw [← hAe]; exact Or.inr h
  have hS : va_S A s.heap s.heap [] := va_S.rf
  generalize hQ : (MQ below _ _ s 0 0 A) = Q
  have hl := lv_entry ([.ref h0, .int v21, .int 0]) (n := 3) (Nat.le_of_ble_eq_true rfl)
  rw [lg_entry_eq]
  generalize (lg_sl ([.ref h0, .int v21, .int 0]) ++ List.replicate (3 - (lg_sl ([.ref h0, .int v21, .int 0])).length) Slot.unset).toArray = ls at hl ⊢
  have hl : lv_has ls 3 [(0, .ref h0), (1, .int v21), (2, .int 0)] := hl
  obtain ⟨H, hH⟩ : ∃ H : Heap, H = s.heap := ⟨_, rfl⟩
  obtain ⟨locs, hlocs⟩ : ∃ y : List Loc, y = [] := ⟨_, rfl⟩
  have hS : va_S A s.heap H locs := by rw [hH, hlocs]; exact va_S.rf
  have hP : va_P (dC, dI) vwCl (wd_5013416a h0 v0 r0 v1 v2 v3 v4 r1 r2 r3 r4 r5 r6 r7 v5 v6 r8 r9 r10 r11 v7 r12 r13 v8 v9 h1 r14 v10 v11 r15 v12 v13 r16 v14 w15 r17 v16 v17 r18 r19 r20 r21 r22 r23 v18 r24 r25 r26 v19 h1 g0 f20) H := by rw [hH]; exact hP
  rw [← hH, ← hlocs]
  refine lv_aload_n hx hb dX12_of_0 rfl (lv_at hl 0 rfl) ?_
  refine va_get (D := (dC, dI)) (ci := 12) (v := .ref h1) (C := RX12) (T := TX12) (N := 48) hx hb hts (fun _ h => List.mem_cons_of_mem _ (List.mem_append_right _ h)) hown hK hP 0 rfl rfl 24 (by decide) (hts (.fieldLink RX12 52 "LeftArgumentsModel" "now" "[I") (List.mem_cons_of_mem _ (List.mem_append_left _ (List.mem_of_getElem? (i := 0) rfl)))) (fun _ h9 => h9) rfl dX12_of_1 ?_
  refine lv_bipush (v := 8) hx hb dX12_of_4 (by decide) ?_
  refine lv_iload_n hx hb dX12_of_6 rfl (lv_at hl 1 rfl) ?_
  refine lv_imul hx hb dX12_of_7 ?_
  refine lv_topi (fun t1 et1 => ?_)
  have gt1 : t1.toInt = 8 * v21.toInt := pv_mul (a := 8) (b := v21.toInt) et1 (by decide) rfl (by omega) (by omega)
  refine lv_iload_n hx hb dX12_of_8 rfl (lv_at hl 2 rfl) ?_
  refine lv_iadd hx hb dX12_of_9 ?_
  refine lv_topi (fun t2 et2 => ?_)
  have gt2 : t2.toInt = t1.toInt + 0 := pv_add (a := t1.toInt) (b := 0) et2 rfl (by decide) (by omega) (by omega)
  refine va_iald hx hb hK hP 1 0 rfl rfl (vp_in_iff.mpr ⟨by omega, by omega⟩) dX12_of_10 ?_
  refine lv_topi (fun t3 et3 => ?_)
  have gat3 : 0 ≤ t3.toInt ∧ t3.toInt ≤ 99 := by rw [et3]; exact (ia_f20).sz (b := v21.toInt) (by omega) (by omega) (by omega)
  subst hQ
  have hP9 := hP.sub (ws' := (wd_5013416a h0 v0 r0 v1 v2 v3 v4 r1 r2 r3 r4 r5 r6 r7 v5 v6 r8 r9 r10 r11 v7 r12 r13 v8 v9 h1 r14 v10 v11 r15 v12 v13 r16 v14 w15 r17 v16 v17 r18 r19 r20 r21 r22 r23 v18 r24 r25 r26 v19 h1 g0 f20)) [0, 1] rfl
  have hD9 := hD.sub (ws' := (wd_5013416a h0 v0 r0 v1 v2 v3 v4 r1 r2 r3 r4 r5 r6 r7 v5 v6 r8 r9 r10 r11 v7 r12 r13 v8 v9 h1 r14 v10 v11 r15 v12 v13 r16 v14 w15 r17 v16 v17 r18 r19 r20 r21 r22 r23 v18 r24 r25 r26 v19 h1 g0 f20)) [0, 1] (by decide) rfl
  have hK9 := hK.sub (tys' := []) [] rfl
  exact W.iret (v := t3) hx hb hr (fun t ht hW => ⟨⟨t3, t3, rfl, rfl, ⟨by first | omega | decide, by first | omega | decide, by subst_vars; rfl, by rw [ht]; exact hP9, va_K.moved hW.alike hK9, hD9⟩⟩, hS.F ht⟩) hS.2.2 dX12_of_11
def q_X12_sizeNow : List Cond := .code yX12_sizeNow cX12_sizeNow 2 (some .int) :: (([.code yX12_isThere cX12_isThere 2 (some .boolean), .code yX12_in cX12_in 3 (some .boolean), .initialized RX12, .static yX12_in, .methodLink RX12 217 yX12_in, .code yX12_of cX12_of 3 (some .int), .fieldLink RX12 52 "LeftArgumentsModel" "now" "[I", .instanceMethod yX12_of, .selects RX12 yX12_of yX12_of, .methodLink RX12 287 yX12_of, .instanceMethod yX12_isThere, .selects RX12 yX12_isThere yX12_isThere, .methodLink RX12 290 yX12_isThere] : List Cond) ++ wsX120)
set_option maxRecDepth 20000 in
theorem g_X12_sizeNow_0 : GoodIn q_X12_sizeNow (wsV RX12 290 RX12 yX12_isThere q_X12_isThere) := goodIn_app (goodIn_r _ [13, 11, 12, 3] rfl (by decide +kernel)) (goodIn_ca (goodIn_r (.code yX12_isThere cX12_isThere 2 (some .boolean) :: [.code yX12_in cX12_in 3 (some .boolean), .initialized RX12, .static yX12_in, .methodLink RX12 217 yX12_in, .code yX12_of cX12_of 3 (some .int), .fieldLink RX12 52 "LeftArgumentsModel" "now" "[I", .instanceMethod yX12_of, .selects RX12 yX12_of yX12_of, .methodLink RX12 287 yX12_of]) [1, 2, 3, 4, 5, 6, 7, 8, 9, 10] rfl (by decide +kernel)) (goodIn_sub (fun _ h => List.mem_cons_of_mem _ (List.mem_append_right _ h)) gwX12))
set_option maxRecDepth 20000 in
theorem g_X12_sizeNow_1 : GoodIn q_X12_sizeNow (wsV RX12 287 RX12 yX12_of q_X12_of_3) := goodIn_app (goodIn_r _ [10, 8, 9, 3] rfl (by decide +kernel)) (goodIn_ca (goodIn_r (.code yX12_of cX12_of 3 (some .int) :: [.fieldLink RX12 52 "LeftArgumentsModel" "now" "[I"]) [6, 7] rfl (by decide +kernel)) (goodIn_sub (fun _ h => List.mem_cons_of_mem _ (List.mem_append_right _ h)) gwX12))
set_option maxHeartbeats 4000000 in
set_option maxRecDepth 100000 in
theorem k_X12_sizeNow (l : Launch) (dC : Nat → ClassId) (dI : Nat → Nat → Nat) (h0 : Nat) (h1 : Nat) (v0 : Int32) (r0 : Nat) (v1 : Int32) (v2 : Int32) (v3 : Int32) (v4 : Int32) (r1 : Nat) (r2 : Nat) (r3 : Nat) (r4 : Nat) (r5 : Nat) (r6 : Nat) (r7 : Nat) (v5 : Int32) (v6 : Int32) (r8 : Nat) (r9 : Nat) (r10 : Nat) (r11 : Nat) (v7 : Int32) (r12 : Nat) (r13 : Nat) (v8 : Int32) (v9 : Int32) (r14 : Nat) (v10 : Int32) (v11 : Int32) (r15 : Nat) (v12 : Int32) (v13 : Int32) (r16 : Nat) (v14 : Int32) (w15 : Int64) (r17 : Nat) (v16 : Int32) (v17 : Int32) (r18 : Nat) (r19 : Nat) (r20 : Nat) (r21 : Nat) (r22 : Nat) (r23 : Nat) (v18 : Int32) (r24 : Nat) (r25 : Nat) (r26 : Nat) (v19 : Int32) (g0 : ClassId) (f20 : Nat → Int32) (v21 : Int32) (i_v1 : 0 ≤ v1.toInt ∧ v1.toInt ≤ 240) (i_v5 : 0 ≤ v5.toInt ∧ v5.toInt ≤ 4) (i_v6 : 0 ≤ v6.toInt ∧ v6.toInt ≤ 4) (i_v7 : 0 ≤ v7.toInt ∧ v7.toInt ≤ 8) (i_v8 : 0 ≤ v8.toInt ∧ v8.toInt ≤ 8) (i_v9 : 0 ≤ v9.toInt ∧ v9.toInt ≤ 1) (i_v10 : -1 ≤ v10.toInt ∧ v10.toInt ≤ 3) (i_v14 : 0 ≤ v14.toInt ∧ v14.toInt ≤ 40) (i_v18 : 0 ≤ v18.toInt ∧ v18.toInt ≤ 10) (i_v19 : 0 ≤ v19.toInt ∧ v19.toInt ≤ 1) (ia_f20 : (pm_NW0 f20)) (sz : Nat) : Met l yX12_sizeNow q_X12_sizeNow ({ frames := 2, cells := 0, slots := 0, locals := 43 }) (va_Pc [.ref h0, .int v21] (fun U => U.heap.size = sz ∧ va_P (dC, dI) vwCl (wd_5013416a h0 v0 r0 v1 v2 v3 v4 r1 r2 r3 r4 r5 r6 r7 v5 v6 r8 r9 r10 r11 v7 r12 r13 v8 v9 h1 r14 v10 v11 r15 v12 v13 r16 v14 w15 r17 v16 v17 r18 r19 r20 r21 r22 r23 v18 r24 r25 r26 v19 h1 g0 f20) U.heap ∧ va_K (dC, dI) vwCl [(g0, .int)] U ∧ va_D (fun _ => True) (wd_5013416a h0 v0 r0 v1 v2 v3 v4 r1 r2 r3 r4 r5 r6 r7 v5 v6 r8 r9 r10 r11 v7 r12 r13 v8 v9 h1 r14 v10 v11 r15 v12 v13 r16 v14 w15 r17 v16 v17 r18 r19 r20 r21 r22 r23 v18 r24 r25 r26 v19 h1 g0 f20))) (va_Qi (fun (r : Int32) (r9 : Int32) => r9 = r) (fun (r : Int32) (t : State) => ((0 ≤ r.toInt) ∧ (r.toInt ≤ 99) ∧ va_P (dC, dI) vwCl (wd_5013416a h0 v0 r0 v1 v2 v3 v4 r1 r2 r3 r4 r5 r6 r7 v5 v6 r8 r9 r10 r11 v7 r12 r13 v8 v9 h1 r14 v10 v11 r15 v12 v13 r16 v14 w15 r17 v16 v17 r18 r19 r20 r21 r22 r23 v18 r24 r25 r26 v19 h1 g0 f20) t.heap ∧ va_K (dC, dI) vwCl [] t ∧ va_D (va_A (wd_5013416a h0 v0 r0 v1 v2 v3 v4 r1 r2 r3 r4 r5 r6 r7 v5 v6 r8 r9 r10 r11 v7 r12 r13 v8 v9 h1 r14 v10 v11 r15 v12 v13 r16 v14 w15 r17 v16 v17 r18 r19 r20 r21 r22 r23 v18 r24 r25 r26 v19 h1 g0 f20) sz) (wd_5013416a h0 v0 r0 v1 v2 v3 v4 r1 r2 r3 r4 r5 r6 r7 v5 v6 r8 r9 r10 r11 v7 r12 r13 v8 v9 h1 r14 v10 v11 r15 v12 v13 r16 v14 w15 r17 v16 v17 r18 r19 r20 r21 r22 r23 v18 r24 r25 r26 v19 h1 g0 f20))) (va_A (wd_5013416a h0 v0 r0 v1 v2 v3 v4 r1 r2 r3 r4 r5 r6 r7 v5 v6 r8 r9 r10 r11 v7 r12 r13 v8 v9 h1 r14 v10 v11 r15 v12 v13 r16 v14 w15 r17 v16 v17 r18 r19 r20 r21 r22 r23 v18 r24 r25 r26 v19 h1 g0 f20) sz)) 0 0 (va_A (wd_5013416a h0 v0 r0 v1 v2 v3 v4 r1 r2 r3 r4 r5 r6 r7 v5 v6 r8 r9 r10 r11 v7 r12 r13 v8 v9 h1 r14 v10 v11 r15 v12 v13 r16 v14 w15 r17 v16 v17 r18 r19 r20 r21 r22 r23 v18 r24 r25 r26 v19 h1 g0 f20) sz) := by
  refine Met.ofW (cc := cX12_sizeNow) (maxL := 2) (ret := (some .int)) (by decide) rfl ?_
  intro p e s m args below meth c s₁ B hml hv
  obtain ⟨i_v1a, i_v1b⟩ := i_v1
  obtain ⟨i_v5a, i_v5b⟩ := i_v5
  obtain ⟨i_v6a, i_v6b⟩ := i_v6
  obtain ⟨i_v7a, i_v7b⟩ := i_v7
  obtain ⟨i_v8a, i_v8b⟩ := i_v8
  obtain ⟨i_v9a, i_v9b⟩ := i_v9
  obtain ⟨i_v10a, i_v10b⟩ := i_v10
  obtain ⟨i_v14a, i_v14b⟩ := i_v14
  obtain ⟨i_v18a, i_v18b⟩ := i_v18
  obtain ⟨i_v19a, i_v19b⟩ := i_v19
  obtain ⟨rfl, hsz, hP, hK, hD0⟩ := hv
  have hx := B.exec
  have hb := B.bytes
  have hr := B.returns
  have hts := atoms_spec (ws := q_X12_sizeNow) B.pre
  have hown : s.vm.findClass RX12 = some m.cls := findClass_of_methodNamed B.named
  have hlocks := B.notSynchronized
  subst hsz
  have hD := hD0.self (sz := s.heap.size)
  generalize hAe : va_A (wd_5013416a h0 v0 r0 v1 v2 v3 v4 r1 r2 r3 r4 r5 r6 r7 v5 v6 r8 r9 r10 r11 v7 r12 r13 v8 v9 h1 r14 v10 v11 r15 v12 v13 r16 v14 w15 r17 v16 v17 r18 r19 r20 r21 r22 r23 v18 r24 r25 r26 v19 h1 g0 f20) s.heap.size = A at hD ⊢
  have hA : ∀ q : Nat, s.heap.size ≤ q → A q := fun q h => by rw [← hAe]; exact Or.inr h
  have hS : va_S A s.heap s.heap [] := va_S.rf
  generalize hQ : (MQ below _ _ s 0 0 A) = Q
  have hl := lv_entry ([.ref h0, .int v21]) (n := 2) (Nat.le_of_ble_eq_true rfl)
  rw [lg_entry_eq]
  generalize (lg_sl ([.ref h0, .int v21]) ++ List.replicate (2 - (lg_sl ([.ref h0, .int v21])).length) Slot.unset).toArray = ls at hl ⊢
  have hl : lv_has ls 2 [(0, .ref h0), (1, .int v21)] := hl
  obtain ⟨H, hH⟩ : ∃ H : Heap, H = s.heap := ⟨_, rfl⟩
  obtain ⟨locs, hlocs⟩ : ∃ y : List Loc, y = [] := ⟨_, rfl⟩
  have hS : va_S A s.heap H locs := by rw [hH, hlocs]; exact va_S.rf
  have hP : va_P (dC, dI) vwCl (wd_5013416a h0 v0 r0 v1 v2 v3 v4 r1 r2 r3 r4 r5 r6 r7 v5 v6 r8 r9 r10 r11 v7 r12 r13 v8 v9 h1 r14 v10 v11 r15 v12 v13 r16 v14 w15 r17 v16 v17 r18 r19 r20 r21 r22 r23 v18 r24 r25 r26 v19 h1 g0 f20) H := by rw [hH]; exact hP
  rw [← hH, ← hlocs]
  refine lv_aload_n hx hb dX12_sizeNow_0 rfl (lv_at hl 0 rfl) ?_
  refine lv_iload_n hx hb dX12_sizeNow_1 rfl (lv_at hl 1 rfl) ?_
  have hPc := hP.sub (ws' := (wd_5013416a h0 v0 r0 v1 v2 v3 v4 r1 r2 r3 r4 r5 r6 r7 v5 v6 r8 r9 r10 r11 v7 r12 r13 v8 v9 h1 r14 v10 v11 r15 v12 v13 r16 v14 w15 r17 v16 v17 r18 r19 r20 r21 r22 r23 v18 r24 r25 r26 v19 h1 g0 f20)) [0, 1] rfl
  have hDc := hD.sub (ws' := (wd_5013416a h0 v0 r0 v1 v2 v3 v4 r1 r2 r3 r4 r5 r6 r7 v5 v6 r8 r9 r10 r11 v7 r12 r13 v8 v9 h1 r14 v10 v11 r15 v12 v13 r16 v14 w15 r17 v16 v17 r18 r19 r20 r21 r22 r23 v18 r24 r25 r26 v19 h1 g0 f20)) [0, 1] (by decide) rfl
  have hKc := hK.sub (tys' := [(g0, .int)]) [0] rfl
  have hFc := va_free (wc := (wd_5013416a h0 v0 r0 v1 v2 v3 v4 r1 r2 r3 r4 r5 r6 r7 v5 v6 r8 r9 r10 r11 v7 r12 r13 v8 v9 h1 r14 v10 v11 r15 v12 v13 r16 v14 w15 r17 v16 v17 r18 r19 r20 r21 r22 r23 v18 r24 r25 r26 v19 h1 g0 f20)) hD hS hA [0, 1] rfl
  refine va_calli (va_runV (As := [.int v21]) (rest := []) ⟨hx, hb, hml, hown, hts⟩ (k_X12_isThere l dC dI h0 h1 v0 r0 v1 v2 v3 v4 r1 r2 r3 r4 r5 r6 r7 v5 v6 r8 r9 r10 r11 v7 r12 r13 v8 v9 r14 v10 v11 r15 v12 v13 r16 v14 w15 r17 v16 v17 r18 r19 r20 r21 r22 r23 v18 r24 r25 r26 v19 g0 f20 v21 ⟨i_v1a, i_v1b⟩ ⟨i_v5a, i_v5b⟩ ⟨i_v6a, i_v6b⟩ ⟨i_v7a, i_v7b⟩ ⟨i_v8a, i_v8b⟩ ⟨i_v9a, i_v9b⟩ ⟨i_v10a, i_v10b⟩ ⟨i_v14a, i_v14b⟩ ⟨i_v18a, i_v18b⟩ ⟨i_v19a, i_v19b⟩ ia_f20 H.size) (cwV 1 hts g_X12_sizeNow_0 rfl rfl rfl (by decide +kernel) ⟨Nat.le_of_ble_eq_true rfl, Nat.le_of_ble_eq_true rfl⟩) (pv_PV12 hPc hKc hDc (q0 := 0) rfl) rfl rfl hl.1 rfl (lv_room (Nat.le_of_ble_eq_true rfl)) dX12_sizeNow_2 ⟨Nat.le_of_ble_eq_true rfl, Nat.le_of_ble_eq_true rfl⟩) hS (fun q _ h => hFc q h) hFc (fun ra1 u t H1 locs ht hvm hwra1 hB hz1 hk1 hS => ?_)
  try rw [hwra1] at hB
  obtain ⟨pt0_ra1, pt1_ra1, pt2_ra1, pt3_ra1, pt4_ra1, pt5_ra1, hP1, hK1, hD1⟩ := hB
  rw [ht] at hP1
  obtain ⟨hP2, hD2⟩ := va_join (wr := []) (w1 := (wd_5013416a h0 v0 r0 v1 v2 v3 v4 r1 r2 r3 r4 r5 r6 r7 v5 v6 r8 r9 r10 r11 v7 r12 r13 v8 v9 h1 r14 v10 v11 r15 v12 v13 r16 v14 w15 r17 v16 v17 r18 r19 r20 r21 r22 r23 v18 r24 r25 r26 v19 h1 g0 f20)) hP hD [0, 1] [] rfl rfl (by decide) (by decide) hk1 hFc hP1 hD1
  clear hP hD hPc hDc hKc hFc hP1 hK1 hD1 hk1 hz1
  generalize H1 = H at hP2 hS ⊢
  have hP : va_P (dC, dI) vwCl (wd_5013416a h0 v0 r0 v1 v2 v3 v4 r1 r2 r3 r4 r5 r6 r7 v5 v6 r8 r9 r10 r11 v7 r12 r13 v8 v9 h1 r14 v10 v11 r15 v12 v13 r16 v14 w15 r17 v16 v17 r18 r19 r20 r21 r22 r23 v18 r24 r25 r26 v19 h1 g0 f20) H := hP2
  have hD : va_D A (wd_5013416a h0 v0 r0 v1 v2 v3 v4 r1 r2 r3 r4 r5 r6 r7 v5 v6 r8 r9 r10 r11 v7 r12 r13 v8 v9 h1 r14 v10 v11 r15 v12 v13 r16 v14 w15 r17 v16 v17 r18 r19 r20 r21 r22 r23 v18 r24 r25 r26 v19 h1 g0 f20) := hD2
  clear hP2 hD2
  have hJ3 : ∀ (x2 : Int32) (H : Heap) (locs : List Loc) (ls : Array Slot), 0 ≤ x2.toInt → x2.toInt ≤ 99 → va_P (dC, dI) vwCl (wd_5013416a h0 v0 r0 v1 v2 v3 v4 r1 r2 r3 r4 r5 r6 r7 v5 v6 r8 r9 r10 r11 v7 r12 r13 v8 v9 h1 r14 v10 v11 r15 v12 v13 r16 v14 w15 r17 v16 v17 r18 r19 r20 r21 r22 r23 v18 r24 r25 r26 v19 h1 g0 f20) H → va_D A (wd_5013416a h0 v0 r0 v1 v2 v3 v4 r1 r2 r3 r4 r5 r6 r7 v5 v6 r8 r9 r10 r11 v7 r12 r13 v8 v9 h1 r14 v10 v11 r15 v12 v13 r16 v14 w15 r17 v16 v17 r18 r19 r20 r21 r22 r23 v18 r24 r25 r26 v19 h1 g0 f20) → va_S A s.heap H locs → lv_has ls 2 [(0, .ref h0), (1, .int v21)] → W p l e ({ frames := 2, cells := 0, slots := 0, locals := 43 }) s m ([.ref h0, .int v21] : List Value).toArray below meth c H locs 0 0 Q (F0 m 18 ls [.int x2]) := by
    intro x2 H locs ls qa_x2 qb_x2 hP hD hS hl
    subst hQ
    have hP9 := hP.sub (ws' := (wd_5013416a h0 v0 r0 v1 v2 v3 v4 r1 r2 r3 r4 r5 r6 r7 v5 v6 r8 r9 r10 r11 v7 r12 r13 v8 v9 h1 r14 v10 v11 r15 v12 v13 r16 v14 w15 r17 v16 v17 r18 r19 r20 r21 r22 r23 v18 r24 r25 r26 v19 h1 g0 f20)) [0, 1] rfl
    have hD9 := hD.sub (ws' := (wd_5013416a h0 v0 r0 v1 v2 v3 v4 r1 r2 r3 r4 r5 r6 r7 v5 v6 r8 r9 r10 r11 v7 r12 r13 v8 v9 h1 r14 v10 v11 r15 v12 v13 r16 v14 w15 r17 v16 v17 r18 r19 r20 r21 r22 r23 v18 r24 r25 r26 v19 h1 g0 f20)) [0, 1] (by decide) rfl
    have hK9 := hK.sub (tys' := []) [] rfl
    exact W.iret (v := x2) hx hb hr (fun t ht hW => ⟨⟨x2, x2, rfl, rfl, ⟨by first | omega | decide, by first | omega | decide, by rw [ht]; exact hP9, va_K.moved hW.alike hK9, hD9⟩⟩, hS.F ht⟩) hS.2.2 dX12_sizeNow_18
  refine lv_if_eq (tgt := 17) hx hb dX12_sizeNow_5 (by decide) (fun c4 => ?_) (fun c4 => ?_)
  · skip
    have fc4 : ra1.toInt = 0 := congrArg Int32.toInt c4
    refine lv_iconst (v := 0) hx hb dX12_sizeNow_17 (by decide) ?_
    exact hJ3 0 H locs ls (by decide) (by decide) hP hD hS (lv_sub hl [0, 1] rfl)
  · skip
    have fc4 : ¬ (ra1.toInt = 0) := fun h9 => c4 (Int32.toInt_inj.mp h9)
    have q1pt4_ra1 := pt4_ra1 (by omega)
    refine lv_aload_n hx hb dX12_sizeNow_8 rfl (lv_at hl 0 rfl) ?_
    refine lv_iload_n hx hb dX12_sizeNow_9 rfl (lv_at hl 1 rfl) ?_
    refine lv_iconst (v := 0) hx hb dX12_sizeNow_10 (by decide) ?_
    have hPc := hP.sub (ws' := (wd_5013416a h0 v0 r0 v1 v2 v3 v4 r1 r2 r3 r4 r5 r6 r7 v5 v6 r8 r9 r10 r11 v7 r12 r13 v8 v9 h1 r14 v10 v11 r15 v12 v13 r16 v14 w15 r17 v16 v17 r18 r19 r20 r21 r22 r23 v18 r24 r25 r26 v19 h1 g0 f20)) [0, 1] rfl
    have hDc := hD.sub (ws' := (wd_5013416a h0 v0 r0 v1 v2 v3 v4 r1 r2 r3 r4 r5 r6 r7 v5 v6 r8 r9 r10 r11 v7 r12 r13 v8 v9 h1 r14 v10 v11 r15 v12 v13 r16 v14 w15 r17 v16 v17 r18 r19 r20 r21 r22 r23 v18 r24 r25 r26 v19 h1 g0 f20)) [0, 1] (by decide) rfl
    have hKc := hK.sub (tys' := [(g0, .int)]) [0] rfl
    have hFc := va_free (wc := (wd_5013416a h0 v0 r0 v1 v2 v3 v4 r1 r2 r3 r4 r5 r6 r7 v5 v6 r8 r9 r10 r11 v7 r12 r13 v8 v9 h1 r14 v10 v11 r15 v12 v13 r16 v14 w15 r17 v16 v17 r18 r19 r20 r21 r22 r23 v18 r24 r25 r26 v19 h1 g0 f20)) hD hS hA [0, 1] rfl
    refine va_calli (va_runV (As := [.int v21, .int 0]) (rest := []) ⟨hx, hb, hml, hown, hts⟩ (k_X12_of_3 l dC dI h0 h1 v0 r0 v1 v2 v3 v4 r1 r2 r3 r4 r5 r6 r7 v5 v6 r8 r9 r10 r11 v7 r12 r13 v8 v9 r14 v10 v11 r15 v12 v13 r16 v14 w15 r17 v16 v17 r18 r19 r20 r21 r22 r23 v18 r24 r25 r26 v19 g0 f20 v21 ⟨i_v1a, i_v1b⟩ ⟨i_v5a, i_v5b⟩ ⟨i_v6a, i_v6b⟩ ⟨i_v7a, i_v7b⟩ ⟨i_v8a, i_v8b⟩ ⟨i_v9a, i_v9b⟩ ⟨i_v10a, i_v10b⟩ ⟨i_v14a, i_v14b⟩ ⟨i_v18a, i_v18b⟩ ⟨i_v19a, i_v19b⟩ ⟨by first | omega | decide, by first | omega | decide⟩ ia_f20 H.size) (cwV 2 hts g_X12_sizeNow_1 rfl rfl rfl (by decide +kernel) ⟨Nat.le_of_ble_eq_true rfl, Nat.le_of_ble_eq_true rfl⟩) (pv_PV12 hPc hKc hDc (q0 := 0) rfl) rfl rfl hl.1 rfl (lv_room (Nat.le_of_ble_eq_true rfl)) dX12_sizeNow_11 ⟨Nat.le_of_ble_eq_true rfl, Nat.le_of_ble_eq_true rfl⟩) hS (fun q _ h => hFc q h) hFc (fun ra5 u t H1 locs ht hvm hwra5 hB hz1 hk1 hS => ?_)
    try rw [hwra5] at hB
    obtain ⟨pt0_ra5, pt1_ra5, pt2_ra5, hP1, hK1, hD1⟩ := hB
    rw [ht] at hP1
    obtain ⟨hP2, hD2⟩ := va_join (wr := []) (w1 := (wd_5013416a h0 v0 r0 v1 v2 v3 v4 r1 r2 r3 r4 r5 r6 r7 v5 v6 r8 r9 r10 r11 v7 r12 r13 v8 v9 h1 r14 v10 v11 r15 v12 v13 r16 v14 w15 r17 v16 v17 r18 r19 r20 r21 r22 r23 v18 r24 r25 r26 v19 h1 g0 f20)) hP hD [0, 1] [] rfl rfl (by decide) (by decide) hk1 hFc hP1 hD1
    clear hP hD hPc hDc hKc hFc hP1 hK1 hD1 hk1 hz1
    generalize H1 = H at hP2 hS ⊢
    have hP : va_P (dC, dI) vwCl (wd_5013416a h0 v0 r0 v1 v2 v3 v4 r1 r2 r3 r4 r5 r6 r7 v5 v6 r8 r9 r10 r11 v7 r12 r13 v8 v9 h1 r14 v10 v11 r15 v12 v13 r16 v14 w15 r17 v16 v17 r18 r19 r20 r21 r22 r23 v18 r24 r25 r26 v19 h1 g0 f20) H := hP2
    have hD : va_D A (wd_5013416a h0 v0 r0 v1 v2 v3 v4 r1 r2 r3 r4 r5 r6 r7 v5 v6 r8 r9 r10 r11 v7 r12 r13 v8 v9 h1 r14 v10 v11 r15 v12 v13 r16 v14 w15 r17 v16 v17 r18 r19 r20 r21 r22 r23 v18 r24 r25 r26 v19 h1 g0 f20) := hD2
    clear hP2 hD2
    refine lv_goto (tgt := 18) hx hb dX12_sizeNow_14 (by decide) ?_
    exact hJ3 ra5 H locs ls (by first | omega | decide) (by first | omega | decide) hP hD hS (lv_sub hl [0, 1] rfl)
def q_X12_in_4 : List Cond := .code yX12_in cX12_in 3 (some .boolean) :: (([] : List Cond))
set_option maxHeartbeats 4000000 in
set_option maxRecDepth 100000 in
theorem k_X12_in_4 (l : Launch) (dC : Nat → ClassId) (dI : Nat → Nat → Nat) (v0 : Int32) (sz : Nat) : Met l yX12_in q_X12_in_4 ({ frames := 0, cells := 0, slots := 0, locals := 0 }) (va_Pc [.int v0, .int 0, .int 4] (fun U => U.heap.size = sz ∧ va_P (dC, dI) vwCl [] U.heap ∧ va_K (dC, dI) vwCl [] U ∧ va_D (fun _ => True) [])) (va_Qi (fun (r : Int32) (r9 : Int32) => r9 = r) (fun (r : Int32) (t : State) => ((0 ≤ r.toInt) ∧ (r.toInt ≤ 1) ∧ ((r.toInt = 1 → 0 ≤ v0.toInt)) ∧ ((r.toInt = 1 → v0.toInt ≤ 4)) ∧ (r.toInt = 0 → ¬ (0 ≤ v0.toInt ∧ v0.toInt ≤ 4)) ∧ va_P (dC, dI) vwCl [] t.heap ∧ va_K (dC, dI) vwCl [] t ∧ va_D (va_A [] sz) [])) (va_A [] sz)) 0 0 (va_A [] sz) := by
  refine Met.ofW (cc := cX12_in) (maxL := 3) (ret := (some .boolean)) (by decide) rfl ?_
  intro p e s m args below meth c s₁ B hml hv
  obtain ⟨rfl, hsz, hP, hK, hD0⟩ := hv
  have hx := B.exec
  have hb := B.bytes
  have hr := B.returns
  have hts := atoms_spec (ws := q_X12_in_4) B.pre
  have hown : s.vm.findClass RX12 = some m.cls := findClass_of_methodNamed B.named
  have hlocks := B.notSynchronized
  subst hsz
  have hD := hD0.self (sz := s.heap.size)
  generalize hAe : va_A [] s.heap.size = A at hD ⊢
  have hA : ∀ q : Nat, s.heap.size ≤ q → A q := fun q h => by rw [← hAe]; exact Or.inr h
  have hS : va_S A s.heap s.heap [] := va_S.rf
  generalize hQ : (MQ below _ _ s 0 0 A) = Q
  have hl := lv_entry ([.int v0, .int 0, .int 4]) (n := 3) (Nat.le_of_ble_eq_true rfl)
  rw [lg_entry_eq]
  generalize (lg_sl ([.int v0, .int 0, .int 4]) ++ List.replicate (3 - (lg_sl ([.int v0, .int 0, .int 4])).length) Slot.unset).toArray = ls at hl ⊢
  have hl : lv_has ls 3 [(0, .int v0), (1, .int 0), (2, .int 4)] := hl
  obtain ⟨H, hH⟩ : ∃ H : Heap, H = s.heap := ⟨_, rfl⟩
  obtain ⟨locs, hlocs⟩ : ∃ y : List Loc, y = [] := ⟨_, rfl⟩
  have hS : va_S A s.heap H locs := by rw [hH, hlocs]; exact va_S.rf
  have hP : va_P (dC, dI) vwCl [] H := by rw [hH]; exact hP
  rw [← hH, ← hlocs]
  refine lv_iload_n hx hb dX12_in_0 rfl (lv_at hl 0 rfl) ?_
  refine lv_iload_n hx hb dX12_in_1 rfl (lv_at hl 1 rfl) ?_
  refine lv_icmp_lt (tgt := 14) hx hb dX12_in_2 (by decide) (fun c1 => ?_) (fun c1 => ?_)
  · skip
    have fc1 : v0.toInt < 0 := Int32.lt_iff_toInt_lt.mp c1
    refine lv_iconst (v := 0) hx hb dX12_in_14 (by decide) ?_
    subst hQ
    have hP9 := hP.sub (ws' := []) [] rfl
    have hD9 := hD.sub (ws' := []) [] (by decide) rfl
    have hK9 := hK.sub (tys' := []) [] rfl
    exact W.zret (v := 0) hx hb hr rfl (fun t ht hW => ⟨⟨0, 0, rfl, rfl, ⟨by first | omega | decide, by first | omega | decide, fun h9 => absurd h9 (by decide), fun h9 => absurd h9 (by decide), fun _ => by omega, by rw [ht]; exact hP9, va_K.moved hW.alike hK9, hD9⟩⟩, hS.F ht⟩) hS.2.2 dX12_in_15
  · skip
    have fc1 : ¬ (v0.toInt < 0) := fun h9 => c1 (Int32.lt_iff_toInt_lt.mpr h9)
    refine lv_iload_n hx hb dX12_in_5 rfl (lv_at hl 0 rfl) ?_
    refine lv_iload_n hx hb dX12_in_6 rfl (lv_at hl 2 rfl) ?_
    refine lv_icmp_gt (tgt := 14) hx hb dX12_in_7 (by decide) (fun c2 => ?_) (fun c2 => ?_)
    · skip
      have fc2 : 4 < v0.toInt := Int32.lt_iff_toInt_lt.mp c2
      refine lv_iconst (v := 0) hx hb dX12_in_14 (by decide) ?_
      subst hQ
      have hP9 := hP.sub (ws' := []) [] rfl
      have hD9 := hD.sub (ws' := []) [] (by decide) rfl
      have hK9 := hK.sub (tys' := []) [] rfl
      exact W.zret (v := 0) hx hb hr rfl (fun t ht hW => ⟨⟨0, 0, rfl, rfl, ⟨by first | omega | decide, by first | omega | decide, fun h9 => absurd h9 (by decide), fun h9 => absurd h9 (by decide), fun _ => by omega, by rw [ht]; exact hP9, va_K.moved hW.alike hK9, hD9⟩⟩, hS.F ht⟩) hS.2.2 dX12_in_15
    · skip
      have fc2 : ¬ (4 < v0.toInt) := fun h9 => c2 (Int32.lt_iff_toInt_lt.mpr h9)
      refine lv_iconst (v := 1) hx hb dX12_in_10 (by decide) ?_
      refine lv_goto (tgt := 15) hx hb dX12_in_11 (by decide) ?_
      subst hQ
      have hP9 := hP.sub (ws' := []) [] rfl
      have hD9 := hD.sub (ws' := []) [] (by decide) rfl
      have hK9 := hK.sub (tys' := []) [] rfl
      exact W.zret (v := 1) hx hb hr rfl (fun t ht hW => ⟨⟨1, 1, rfl, rfl, ⟨by first | omega | decide, by first | omega | decide, fun _ => by omega, fun _ => by omega, fun h9 => absurd h9 (by decide), by rw [ht]; exact hP9, va_K.moved hW.alike hK9, hD9⟩⟩, hS.F ht⟩) hS.2.2 dX12_in_15
def q_X12_status : List Cond := .code yX12_status cX12_status 2 (some .int) :: (([.code yX12_in cX12_in 3 (some .boolean), .initialized RX12, .static yX12_in, .methodLink RX12 217 yX12_in, .fieldLink RX12 55 "LeftArgumentsModel" "refused" "[I"] : List Cond) ++ wsX120)
set_option maxRecDepth 20000 in
theorem g_X12_status_0 : GoodIn q_X12_status (va_wsS RX12 217 yX12_in q_X12_in_4) := goodIn_app (goodIn_r _ [4, 3, 2] rfl (by decide +kernel)) (goodIn_r (.code yX12_in cX12_in 3 (some .boolean) :: []) [1] rfl (by decide +kernel))
set_option maxHeartbeats 4000000 in
set_option maxRecDepth 100000 in
theorem k_X12_status (l : Launch) (dC : Nat → ClassId) (dI : Nat → Nat → Nat) (h0 : Nat) (h1 : Nat) (v0 : Int32) (r0 : Nat) (v1 : Int32) (v2 : Int32) (v3 : Int32) (v4 : Int32) (r1 : Nat) (r2 : Nat) (r3 : Nat) (r4 : Nat) (r5 : Nat) (r6 : Nat) (r7 : Nat) (v5 : Int32) (v6 : Int32) (r8 : Nat) (r9 : Nat) (r10 : Nat) (r11 : Nat) (v7 : Int32) (r12 : Nat) (r13 : Nat) (v8 : Int32) (v9 : Int32) (r14 : Nat) (v10 : Int32) (v11 : Int32) (r15 : Nat) (v12 : Int32) (v13 : Int32) (r16 : Nat) (v14 : Int32) (w15 : Int64) (r17 : Nat) (v16 : Int32) (v17 : Int32) (r18 : Nat) (r19 : Nat) (r20 : Nat) (r21 : Nat) (r22 : Nat) (r23 : Nat) (v18 : Int32) (r24 : Nat) (r25 : Nat) (r26 : Nat) (v19 : Int32) (g0 : ClassId) (f20 : Nat → Int32) (v21 : Int32) (i_v1 : 0 ≤ v1.toInt ∧ v1.toInt ≤ 240) (i_v5 : 0 ≤ v5.toInt ∧ v5.toInt ≤ 4) (i_v6 : 0 ≤ v6.toInt ∧ v6.toInt ≤ 4) (i_v7 : 0 ≤ v7.toInt ∧ v7.toInt ≤ 8) (i_v8 : 0 ≤ v8.toInt ∧ v8.toInt ≤ 8) (i_v9 : 0 ≤ v9.toInt ∧ v9.toInt ≤ 1) (i_v10 : -1 ≤ v10.toInt ∧ v10.toInt ≤ 3) (i_v14 : 0 ≤ v14.toInt ∧ v14.toInt ≤ 40) (i_v18 : 0 ≤ v18.toInt ∧ v18.toInt ≤ 10) (i_v19 : 0 ≤ v19.toInt ∧ v19.toInt ≤ 1) (sz : Nat) : Met l yX12_status q_X12_status ({ frames := 1, cells := 0, slots := 0, locals := 22 }) (va_Pc [.ref h0, .int v21] (fun U => U.heap.size = sz ∧ va_P (dC, dI) vwCl (wd_5b5f7811 h0 v0 r0 v1 v2 v3 v4 r1 r2 r3 r4 r5 r6 r7 v5 v6 r8 r9 r10 r11 v7 r12 r13 v8 v9 r14 h1 v10 v11 r15 v12 v13 r16 v14 w15 r17 v16 v17 r18 r19 r20 r21 r22 r23 v18 r24 r25 r26 v19 h1 g0 f20) U.heap ∧ va_K (dC, dI) vwCl [(g0, .int)] U ∧ va_D (fun _ => True) (wd_5b5f7811 h0 v0 r0 v1 v2 v3 v4 r1 r2 r3 r4 r5 r6 r7 v5 v6 r8 r9 r10 r11 v7 r12 r13 v8 v9 r14 h1 v10 v11 r15 v12 v13 r16 v14 w15 r17 v16 v17 r18 r19 r20 r21 r22 r23 v18 r24 r25 r26 v19 h1 g0 f20))) (va_Qi (fun (r : Int32) (r9 : Int32) => r9 = r) (fun (r : Int32) (t : State) => (va_P (dC, dI) vwCl (wd_5b5f7811 h0 v0 r0 v1 v2 v3 v4 r1 r2 r3 r4 r5 r6 r7 v5 v6 r8 r9 r10 r11 v7 r12 r13 v8 v9 r14 h1 v10 v11 r15 v12 v13 r16 v14 w15 r17 v16 v17 r18 r19 r20 r21 r22 r23 v18 r24 r25 r26 v19 h1 g0 f20) t.heap ∧ va_K (dC, dI) vwCl [] t ∧ va_D (va_A (wd_5b5f7811 h0 v0 r0 v1 v2 v3 v4 r1 r2 r3 r4 r5 r6 r7 v5 v6 r8 r9 r10 r11 v7 r12 r13 v8 v9 r14 h1 v10 v11 r15 v12 v13 r16 v14 w15 r17 v16 v17 r18 r19 r20 r21 r22 r23 v18 r24 r25 r26 v19 h1 g0 f20) sz) (wd_5b5f7811 h0 v0 r0 v1 v2 v3 v4 r1 r2 r3 r4 r5 r6 r7 v5 v6 r8 r9 r10 r11 v7 r12 r13 v8 v9 r14 h1 v10 v11 r15 v12 v13 r16 v14 w15 r17 v16 v17 r18 r19 r20 r21 r22 r23 v18 r24 r25 r26 v19 h1 g0 f20))) (va_A (wd_5b5f7811 h0 v0 r0 v1 v2 v3 v4 r1 r2 r3 r4 r5 r6 r7 v5 v6 r8 r9 r10 r11 v7 r12 r13 v8 v9 r14 h1 v10 v11 r15 v12 v13 r16 v14 w15 r17 v16 v17 r18 r19 r20 r21 r22 r23 v18 r24 r25 r26 v19 h1 g0 f20) sz)) 0 0 (va_A (wd_5b5f7811 h0 v0 r0 v1 v2 v3 v4 r1 r2 r3 r4 r5 r6 r7 v5 v6 r8 r9 r10 r11 v7 r12 r13 v8 v9 r14 h1 v10 v11 r15 v12 v13 r16 v14 w15 r17 v16 v17 r18 r19 r20 r21 r22 r23 v18 r24 r25 r26 v19 h1 g0 f20) sz) := by
  refine Met.ofW (cc := cX12_status) (maxL := 2) (ret := (some .int)) (by decide) rfl ?_
  intro p e s m args below meth c s₁ B hml hv
  obtain ⟨i_v1a, i_v1b⟩ := i_v1
  obtain ⟨i_v5a, i_v5b⟩ := i_v5
  obtain ⟨i_v6a, i_v6b⟩ := i_v6
  obtain ⟨i_v7a, i_v7b⟩ := i_v7
  obtain ⟨i_v8a, i_v8b⟩ := i_v8
  obtain ⟨i_v9a, i_v9b⟩ := i_v9
  obtain ⟨i_v10a, i_v10b⟩ := i_v10
  obtain ⟨i_v14a, i_v14b⟩ := i_v14
  obtain ⟨i_v18a, i_v18b⟩ := i_v18
  obtain ⟨i_v19a, i_v19b⟩ := i_v19
  obtain ⟨rfl, hsz, hP, hK, hD0⟩ := hv
  have hx := B.exec
  have hb := B.bytes
  have hr := B.returns
  have hts := atoms_spec (ws := q_X12_status) B.pre
  have hown : s.vm.findClass RX12 = some m.cls := findClass_of_methodNamed B.named
  have hlocks := B.notSynchronized
  subst hsz
  have hD := hD0.self (sz := s.heap.size)
  generalize hAe : va_A (wd_5b5f7811 h0 v0 r0 v1 v2 v3 v4 r1 r2 r3 r4 r5 r6 r7 v5 v6 r8 r9 r10 r11 v7 r12 r13 v8 v9 r14 h1 v10 v11 r15 v12 v13 r16 v14 w15 r17 v16 v17 r18 r19 r20 r21 r22 r23 v18 r24 r25 r26 v19 h1 g0 f20) s.heap.size = A at hD ⊢
  have hA : ∀ q : Nat, s.heap.size ≤ q → A q := fun q h => by rw [← hAe]; exact Or.inr h
  have hS : va_S A s.heap s.heap [] := va_S.rf
  generalize hQ : (MQ below _ _ s 0 0 A) = Q
  have hl := lv_entry ([.ref h0, .int v21]) (n := 2) (Nat.le_of_ble_eq_true rfl)
  rw [lg_entry_eq]
  generalize (lg_sl ([.ref h0, .int v21]) ++ List.replicate (2 - (lg_sl ([.ref h0, .int v21])).length) Slot.unset).toArray = ls at hl ⊢
  have hl : lv_has ls 2 [(0, .ref h0), (1, .int v21)] := hl
  obtain ⟨H, hH⟩ : ∃ H : Heap, H = s.heap := ⟨_, rfl⟩
  obtain ⟨locs, hlocs⟩ : ∃ y : List Loc, y = [] := ⟨_, rfl⟩
  have hS : va_S A s.heap H locs := by rw [hH, hlocs]; exact va_S.rf
  have hP : va_P (dC, dI) vwCl (wd_5b5f7811 h0 v0 r0 v1 v2 v3 v4 r1 r2 r3 r4 r5 r6 r7 v5 v6 r8 r9 r10 r11 v7 r12 r13 v8 v9 r14 h1 v10 v11 r15 v12 v13 r16 v14 w15 r17 v16 v17 r18 r19 r20 r21 r22 r23 v18 r24 r25 r26 v19 h1 g0 f20) H := by rw [hH]; exact hP
  rw [← hH, ← hlocs]
  refine lv_iload_n hx hb dX12_status_0 rfl (lv_at hl 1 rfl) ?_
  refine lv_iconst (v := 0) hx hb dX12_status_1 (by decide) ?_
  refine lv_iconst (v := 4) hx hb dX12_status_2 (by decide) ?_
  have hPc := hP.sub (ws' := []) [] rfl
  have hDc := hD.sub (ws' := []) [] (by decide) rfl
  have hKc := hK.sub (tys' := []) [] rfl
  have hFc := va_free (wc := []) hD hS hA [] rfl
  refine va_calli (va_runS (As := [.int v21, .int 0, .int 4]) (rest := []) ⟨hx, hb, hml, hown, hts⟩ (k_X12_in_4 l dC dI v21  H.size) (va_cwS 3 hts g_X12_status_0 rfl rfl rfl (by decide +kernel) ⟨Nat.le_of_ble_eq_true rfl, Nat.le_of_ble_eq_true rfl⟩) (pv_PS hPc hKc hDc) rfl rfl hl.1 rfl (lv_room (Nat.le_of_ble_eq_true rfl)) dX12_status_3 ⟨Nat.le_of_ble_eq_true rfl, Nat.le_of_ble_eq_true rfl⟩) hS (fun q _ h => hFc q h) hFc (fun ra1 u t H1 locs ht hvm hwra1 hB hz1 hk1 hS => ?_)
  try rw [hwra1] at hB
  obtain ⟨pt0_ra1, pt1_ra1, pt2_ra1, pt3_ra1, pt4_ra1, hP1, hK1, hD1⟩ := hB
  rw [ht] at hP1
  obtain ⟨hP2, hD2⟩ := va_join (wr := (wd_5b5f7811 h0 v0 r0 v1 v2 v3 v4 r1 r2 r3 r4 r5 r6 r7 v5 v6 r8 r9 r10 r11 v7 r12 r13 v8 v9 r14 h1 v10 v11 r15 v12 v13 r16 v14 w15 r17 v16 v17 r18 r19 r20 r21 r22 r23 v18 r24 r25 r26 v19 h1 g0 f20)) (w1 := []) hP hD [] [0, 1] rfl rfl (by decide) (by decide) hk1 hFc hP1 hD1
  clear hP hD hPc hDc hKc hFc hP1 hK1 hD1 hk1 hz1
  generalize H1 = H at hP2 hS ⊢
  have hP : va_P (dC, dI) vwCl (wd_5b5f7811 h0 v0 r0 v1 v2 v3 v4 r1 r2 r3 r4 r5 r6 r7 v5 v6 r8 r9 r10 r11 v7 r12 r13 v8 v9 r14 h1 v10 v11 r15 v12 v13 r16 v14 w15 r17 v16 v17 r18 r19 r20 r21 r22 r23 v18 r24 r25 r26 v19 h1 g0 f20) H := hP2
  have hD : va_D A (wd_5b5f7811 h0 v0 r0 v1 v2 v3 v4 r1 r2 r3 r4 r5 r6 r7 v5 v6 r8 r9 r10 r11 v7 r12 r13 v8 v9 r14 h1 v10 v11 r15 v12 v13 r16 v14 w15 r17 v16 v17 r18 r19 r20 r21 r22 r23 v18 r24 r25 r26 v19 h1 g0 f20) := hD2
  clear hP2 hD2
  refine lv_if_eq (tgt := 18) hx hb dX12_status_6 (by decide) (fun c2 => ?_) (fun c2 => ?_)
  · skip
    have fc2 : ra1.toInt = 0 := congrArg Int32.toInt c2
    refine lv_iconst (v := (-1)) hx hb dX12_status_18 (by decide) ?_
    subst hQ
    have hP9 := hP.sub (ws' := (wd_5b5f7811 h0 v0 r0 v1 v2 v3 v4 r1 r2 r3 r4 r5 r6 r7 v5 v6 r8 r9 r10 r11 v7 r12 r13 v8 v9 r14 h1 v10 v11 r15 v12 v13 r16 v14 w15 r17 v16 v17 r18 r19 r20 r21 r22 r23 v18 r24 r25 r26 v19 h1 g0 f20)) [0, 1] rfl
    have hD9 := hD.sub (ws' := (wd_5b5f7811 h0 v0 r0 v1 v2 v3 v4 r1 r2 r3 r4 r5 r6 r7 v5 v6 r8 r9 r10 r11 v7 r12 r13 v8 v9 r14 h1 v10 v11 r15 v12 v13 r16 v14 w15 r17 v16 v17 r18 r19 r20 r21 r22 r23 v18 r24 r25 r26 v19 h1 g0 f20)) [0, 1] (by decide) rfl
    have hK9 := hK.sub (tys' := []) [] rfl
    exact W.iret (v := (-1)) hx hb hr (fun t ht hW => ⟨⟨(-1), (-1), rfl, rfl, ⟨by rw [ht]; exact hP9, va_K.moved hW.alike hK9, hD9⟩⟩, hS.F ht⟩) hS.2.2 dX12_status_19
  · skip
    have fc2 : ¬ (ra1.toInt = 0) := fun h9 => c2 (Int32.toInt_inj.mp h9)
    refine lv_aload_n hx hb dX12_status_9 rfl (lv_at hl 0 rfl) ?_
    refine va_get (D := (dC, dI)) (ci := 12) (v := .ref h1) (C := RX12) (T := TX12) (N := 48) hx hb hts (fun _ h => List.mem_cons_of_mem _ (List.mem_append_right _ h)) hown hK hP 0 rfl rfl 25 (by decide) (hts (.fieldLink RX12 55 "LeftArgumentsModel" "refused" "[I") (List.mem_cons_of_mem _ (List.mem_append_left _ (List.mem_of_getElem? (i := 4) rfl)))) (fun _ h9 => h9) rfl dX12_status_10 ?_
    refine lv_iload_n hx hb dX12_status_13 rfl (lv_at hl 1 rfl) ?_
    refine va_iald hx hb hK hP 1 0 rfl rfl (vp_in_iff.mpr ⟨by omega, by omega⟩) dX12_status_14 ?_
    refine lv_topi (fun t3 et3 => ?_)
    refine lv_goto (tgt := 19) hx hb dX12_status_15 (by decide) ?_
    subst hQ
    have hP9 := hP.sub (ws' := (wd_5b5f7811 h0 v0 r0 v1 v2 v3 v4 r1 r2 r3 r4 r5 r6 r7 v5 v6 r8 r9 r10 r11 v7 r12 r13 v8 v9 r14 h1 v10 v11 r15 v12 v13 r16 v14 w15 r17 v16 v17 r18 r19 r20 r21 r22 r23 v18 r24 r25 r26 v19 h1 g0 f20)) [0, 1] rfl
    have hD9 := hD.sub (ws' := (wd_5b5f7811 h0 v0 r0 v1 v2 v3 v4 r1 r2 r3 r4 r5 r6 r7 v5 v6 r8 r9 r10 r11 v7 r12 r13 v8 v9 r14 h1 v10 v11 r15 v12 v13 r16 v14 w15 r17 v16 v17 r18 r19 r20 r21 r22 r23 v18 r24 r25 r26 v19 h1 g0 f20)) [0, 1] (by decide) rfl
    have hK9 := hK.sub (tys' := []) [] rfl
    exact W.iret (v := t3) hx hb hr (fun t ht hW => ⟨⟨t3, t3, rfl, rfl, ⟨by rw [ht]; exact hP9, va_K.moved hW.alike hK9, hD9⟩⟩, hS.F ht⟩) hS.2.2 dX12_status_19
def q_X12_bagOnes : List Cond := .code yX12_bagOnes cX12_bagOnes 3 (some .int) :: (([.code yX12_isThere cX12_isThere 2 (some .boolean), .code yX12_in cX12_in 3 (some .boolean), .initialized RX12, .static yX12_in, .methodLink RX12 217 yX12_in, .code yX12_of cX12_of 3 (some .int), .fieldLink RX12 52 "LeftArgumentsModel" "now" "[I", .instanceMethod yX12_of, .selects RX12 yX12_of yX12_of, .methodLink RX12 287 yX12_of, .instanceMethod yX12_isThere, .selects RX12 yX12_isThere yX12_isThere, .methodLink RX12 290 yX12_isThere] : List Cond) ++ wsX120)
set_option maxRecDepth 20000 in
theorem g_X12_bagOnes_0 : GoodIn q_X12_bagOnes (wsV RX12 290 RX12 yX12_isThere q_X12_isThere) := goodIn_app (goodIn_r _ [13, 11, 12, 3] rfl (by decide +kernel)) (goodIn_ca (goodIn_r (.code yX12_isThere cX12_isThere 2 (some .boolean) :: [.code yX12_in cX12_in 3 (some .boolean), .initialized RX12, .static yX12_in, .methodLink RX12 217 yX12_in, .code yX12_of cX12_of 3 (some .int), .fieldLink RX12 52 "LeftArgumentsModel" "now" "[I", .instanceMethod yX12_of, .selects RX12 yX12_of yX12_of, .methodLink RX12 287 yX12_of]) [1, 2, 3, 4, 5, 6, 7, 8, 9, 10] rfl (by decide +kernel)) (goodIn_sub (fun _ h => List.mem_cons_of_mem _ (List.mem_append_right _ h)) gwX12))
set_option maxHeartbeats 4000000 in
set_option maxRecDepth 100000 in
theorem k_X12_bagOnes (l : Launch) (dC : Nat → ClassId) (dI : Nat → Nat → Nat) (h0 : Nat) (h1 : Nat) (v0 : Int32) (r0 : Nat) (v1 : Int32) (v2 : Int32) (v3 : Int32) (v4 : Int32) (r1 : Nat) (r2 : Nat) (r3 : Nat) (r4 : Nat) (r5 : Nat) (r6 : Nat) (r7 : Nat) (v5 : Int32) (v6 : Int32) (r8 : Nat) (r9 : Nat) (r10 : Nat) (r11 : Nat) (v7 : Int32) (r12 : Nat) (r13 : Nat) (v8 : Int32) (v9 : Int32) (r14 : Nat) (v10 : Int32) (v11 : Int32) (r15 : Nat) (v12 : Int32) (v13 : Int32) (r16 : Nat) (v14 : Int32) (w15 : Int64) (r17 : Nat) (v16 : Int32) (v17 : Int32) (r18 : Nat) (r19 : Nat) (r20 : Nat) (r21 : Nat) (r22 : Nat) (r23 : Nat) (v18 : Int32) (r24 : Nat) (r25 : Nat) (r26 : Nat) (v19 : Int32) (g0 : ClassId) (f20 : Nat → Int32) (i_v1 : 0 ≤ v1.toInt ∧ v1.toInt ≤ 240) (i_v5 : 0 ≤ v5.toInt ∧ v5.toInt ≤ 4) (i_v6 : 0 ≤ v6.toInt ∧ v6.toInt ≤ 4) (i_v7 : 0 ≤ v7.toInt ∧ v7.toInt ≤ 8) (i_v8 : 0 ≤ v8.toInt ∧ v8.toInt ≤ 8) (i_v9 : 0 ≤ v9.toInt ∧ v9.toInt ≤ 1) (i_v10 : -1 ≤ v10.toInt ∧ v10.toInt ≤ 3) (i_v14 : 0 ≤ v14.toInt ∧ v14.toInt ≤ 40) (i_v18 : 0 ≤ v18.toInt ∧ v18.toInt ≤ 10) (i_v19 : 0 ≤ v19.toInt ∧ v19.toInt ≤ 1) (ia_f20 : (pm_NW f20)) (sz : Nat) : Met l yX12_bagOnes q_X12_bagOnes ({ frames := 2, cells := 0, slots := 0, locals := 43 }) (va_Pc [.ref h0] (fun U => U.heap.size = sz ∧ va_P (dC, dI) vwCl (wd_5013416a h0 v0 r0 v1 v2 v3 v4 r1 r2 r3 r4 r5 r6 r7 v5 v6 r8 r9 r10 r11 v7 r12 r13 v8 v9 h1 r14 v10 v11 r15 v12 v13 r16 v14 w15 r17 v16 v17 r18 r19 r20 r21 r22 r23 v18 r24 r25 r26 v19 h1 g0 f20) U.heap ∧ va_K (dC, dI) vwCl [(g0, .int)] U ∧ va_D (fun _ => True) (wd_5013416a h0 v0 r0 v1 v2 v3 v4 r1 r2 r3 r4 r5 r6 r7 v5 v6 r8 r9 r10 r11 v7 r12 r13 v8 v9 h1 r14 v10 v11 r15 v12 v13 r16 v14 w15 r17 v16 v17 r18 r19 r20 r21 r22 r23 v18 r24 r25 r26 v19 h1 g0 f20))) (va_Qi (fun (r : Int32) (r9 : Int32) => r9 = r) (fun (r : Int32) (t : State) => (va_P (dC, dI) vwCl (wd_5013416a h0 v0 r0 v1 v2 v3 v4 r1 r2 r3 r4 r5 r6 r7 v5 v6 r8 r9 r10 r11 v7 r12 r13 v8 v9 h1 r14 v10 v11 r15 v12 v13 r16 v14 w15 r17 v16 v17 r18 r19 r20 r21 r22 r23 v18 r24 r25 r26 v19 h1 g0 f20) t.heap ∧ va_K (dC, dI) vwCl [] t ∧ va_D (va_A (wd_5013416a h0 v0 r0 v1 v2 v3 v4 r1 r2 r3 r4 r5 r6 r7 v5 v6 r8 r9 r10 r11 v7 r12 r13 v8 v9 h1 r14 v10 v11 r15 v12 v13 r16 v14 w15 r17 v16 v17 r18 r19 r20 r21 r22 r23 v18 r24 r25 r26 v19 h1 g0 f20) sz) (wd_5013416a h0 v0 r0 v1 v2 v3 v4 r1 r2 r3 r4 r5 r6 r7 v5 v6 r8 r9 r10 r11 v7 r12 r13 v8 v9 h1 r14 v10 v11 r15 v12 v13 r16 v14 w15 r17 v16 v17 r18 r19 r20 r21 r22 r23 v18 r24 r25 r26 v19 h1 g0 f20))) (va_A (wd_5013416a h0 v0 r0 v1 v2 v3 v4 r1 r2 r3 r4 r5 r6 r7 v5 v6 r8 r9 r10 r11 v7 r12 r13 v8 v9 h1 r14 v10 v11 r15 v12 v13 r16 v14 w15 r17 v16 v17 r18 r19 r20 r21 r22 r23 v18 r24 r25 r26 v19 h1 g0 f20) sz)) 0 0 (va_A (wd_5013416a h0 v0 r0 v1 v2 v3 v4 r1 r2 r3 r4 r5 r6 r7 v5 v6 r8 r9 r10 r11 v7 r12 r13 v8 v9 h1 r14 v10 v11 r15 v12 v13 r16 v14 w15 r17 v16 v17 r18 r19 r20 r21 r22 r23 v18 r24 r25 r26 v19 h1 g0 f20) sz) := by
  refine Met.ofW (cc := cX12_bagOnes) (maxL := 3) (ret := (some .int)) (by decide) rfl ?_
  intro p e s m args below meth c s₁ B hml hv
  obtain ⟨i_v1a, i_v1b⟩ := i_v1
  obtain ⟨i_v5a, i_v5b⟩ := i_v5
  obtain ⟨i_v6a, i_v6b⟩ := i_v6
  obtain ⟨i_v7a, i_v7b⟩ := i_v7
  obtain ⟨i_v8a, i_v8b⟩ := i_v8
  obtain ⟨i_v9a, i_v9b⟩ := i_v9
  obtain ⟨i_v10a, i_v10b⟩ := i_v10
  obtain ⟨i_v14a, i_v14b⟩ := i_v14
  obtain ⟨i_v18a, i_v18b⟩ := i_v18
  obtain ⟨i_v19a, i_v19b⟩ := i_v19
  obtain ⟨rfl, hsz, hP, hK, hD0⟩ := hv
  have hx := B.exec
  have hb := B.bytes
  have hr := B.returns
  have hts := atoms_spec (ws := q_X12_bagOnes) B.pre
  have hown : s.vm.findClass RX12 = some m.cls := findClass_of_methodNamed B.named
  have hlocks := B.notSynchronized
  subst hsz
  have hD := hD0.self (sz := s.heap.size)
  generalize hAe : va_A (wd_5013416a h0 v0 r0 v1 v2 v3 v4 r1 r2 r3 r4 r5 r6 r7 v5 v6 r8 r9 r10 r11 v7 r12 r13 v8 v9 h1 r14 v10 v11 r15 v12 v13 r16 v14 w15 r17 v16 v17 r18 r19 r20 r21 r22 r23 v18 r24 r25 r26 v19 h1 g0 f20) s.heap.size = A at hD ⊢
  have hA : ∀ q : Nat, s.heap.size ≤ q → A q := fun q h => by rw [← hAe]; exact Or.inr h
  have hS : va_S A s.heap s.heap [] := va_S.rf
  generalize hQ : (MQ below _ _ s 0 0 A) = Q
  have hl := lv_entry ([.ref h0]) (n := 3) (Nat.le_of_ble_eq_true rfl)
  rw [lg_entry_eq]
  generalize (lg_sl ([.ref h0]) ++ List.replicate (3 - (lg_sl ([.ref h0])).length) Slot.unset).toArray = ls at hl ⊢
  have hl : lv_has ls 3 [(0, .ref h0)] := hl
  obtain ⟨H, hH⟩ : ∃ H : Heap, H = s.heap := ⟨_, rfl⟩
  obtain ⟨locs, hlocs⟩ : ∃ y : List Loc, y = [] := ⟨_, rfl⟩
  have hS : va_S A s.heap H locs := by rw [hH, hlocs]; exact va_S.rf
  have hP : va_P (dC, dI) vwCl (wd_5013416a h0 v0 r0 v1 v2 v3 v4 r1 r2 r3 r4 r5 r6 r7 v5 v6 r8 r9 r10 r11 v7 r12 r13 v8 v9 h1 r14 v10 v11 r15 v12 v13 r16 v14 w15 r17 v16 v17 r18 r19 r20 r21 r22 r23 v18 r24 r25 r26 v19 h1 g0 f20) H := by rw [hH]; exact hP
  rw [← hH, ← hlocs]
  refine lv_iconst (v := 0) hx hb dX12_bagOnes_0 (by decide) ?_
  refine lv_istore_n (lv' := [(1, .int 0), (0, .ref h0)]) hx hb dX12_bagOnes_1 rfl hl (by decide) rfl (fun ls hl => ?_)
  refine lv_iconst (v := 0) hx hb dX12_bagOnes_2 (by decide) ?_
  refine lv_istore_n (lv' := [(2, .int 0), (1, .int 0), (0, .ref h0)]) hx hb dX12_bagOnes_3 rfl hl (by decide) rfl (fun ls hl => ?_)
  have hL11 : ∀ (n9 : Nat), ∀ (x7 : Int32) (x8 : Int32) (H : Heap) (locs : List Loc) (ls : Array Slot), 0 ≤ x7.toInt → x7.toInt ≤ 8 → (8 - x7.toInt).toNat < n9 → va_P (dC, dI) vwCl (wd_5013416a h0 v0 r0 v1 v2 v3 v4 r1 r2 r3 r4 r5 r6 r7 v5 v6 r8 r9 r10 r11 v7 r12 r13 v8 v9 h1 r14 v10 v11 r15 v12 v13 r16 v14 w15 r17 v16 v17 r18 r19 r20 r21 r22 r23 v18 r24 r25 r26 v19 h1 g0 f20) H → va_D A (wd_5013416a h0 v0 r0 v1 v2 v3 v4 r1 r2 r3 r4 r5 r6 r7 v5 v6 r8 r9 r10 r11 v7 r12 r13 v8 v9 h1 r14 v10 v11 r15 v12 v13 r16 v14 w15 r17 v16 v17 r18 r19 r20 r21 r22 r23 v18 r24 r25 r26 v19 h1 g0 f20) → va_S A s.heap H locs → lv_has ls 3 [(2, .int x7), (1, .int x8), (0, .ref h0)] → W p l e ({ frames := 2, cells := 0, slots := 0, locals := 43 }) s m ([.ref h0] : List Value).toArray below meth c H locs 0 0 Q (F0 m 4 ls []) := by
    intro n9
    induction n9 with
    | zero => intro x7 x8 H locs ls qa_x7 qb_x7 hm9 hP hD hS hl; exact absurd hm9 (Nat.not_lt_zero _)
    | succ n9 ih_hL11 =>
      intro x7 x8 H locs ls qa_x7 qb_x7 hm9 hP hD hS hl
      refine lv_iload_n hx hb dX12_bagOnes_4 rfl (lv_at hl 0 rfl) ?_
      refine lv_bipush (v := 8) hx hb dX12_bagOnes_5 (by decide) ?_
      refine lv_icmp_ge (tgt := 34) hx hb dX12_bagOnes_7 (by decide) (fun c12 => ?_) (fun c12 => ?_)
      · skip
        have fc12 : 8 ≤ x7.toInt := Int32.le_iff_toInt_le.mp c12
        refine lv_iload_n hx hb dX12_bagOnes_34 rfl (lv_at hl 1 rfl) ?_
        subst hQ
        have hP9 := hP.sub (ws' := (wd_5013416a h0 v0 r0 v1 v2 v3 v4 r1 r2 r3 r4 r5 r6 r7 v5 v6 r8 r9 r10 r11 v7 r12 r13 v8 v9 h1 r14 v10 v11 r15 v12 v13 r16 v14 w15 r17 v16 v17 r18 r19 r20 r21 r22 r23 v18 r24 r25 r26 v19 h1 g0 f20)) [0, 1] rfl
        have hD9 := hD.sub (ws' := (wd_5013416a h0 v0 r0 v1 v2 v3 v4 r1 r2 r3 r4 r5 r6 r7 v5 v6 r8 r9 r10 r11 v7 r12 r13 v8 v9 h1 r14 v10 v11 r15 v12 v13 r16 v14 w15 r17 v16 v17 r18 r19 r20 r21 r22 r23 v18 r24 r25 r26 v19 h1 g0 f20)) [0, 1] (by decide) rfl
        have hK9 := hK.sub (tys' := []) [] rfl
        exact W.iret (v := x8) hx hb hr (fun t ht hW => ⟨⟨x8, x8, rfl, rfl, ⟨by rw [ht]; exact hP9, va_K.moved hW.alike hK9, hD9⟩⟩, hS.F ht⟩) hS.2.2 dX12_bagOnes_35
      · skip
        have fc12 : ¬ (8 ≤ x7.toInt) := fun h9 => c12 (Int32.le_iff_toInt_le.mpr h9)
        refine lv_iload_n hx hb dX12_bagOnes_10 rfl (lv_at hl 1 rfl) ?_
        refine lv_aload_n hx hb dX12_bagOnes_11 rfl (lv_at hl 2 rfl) ?_
        refine lv_iload_n hx hb dX12_bagOnes_12 rfl (lv_at hl 0 rfl) ?_
        have hPc := hP.sub (ws' := (wd_5013416a h0 v0 r0 v1 v2 v3 v4 r1 r2 r3 r4 r5 r6 r7 v5 v6 r8 r9 r10 r11 v7 r12 r13 v8 v9 h1 r14 v10 v11 r15 v12 v13 r16 v14 w15 r17 v16 v17 r18 r19 r20 r21 r22 r23 v18 r24 r25 r26 v19 h1 g0 f20)) [0, 1] rfl
        have hDc := hD.sub (ws' := (wd_5013416a h0 v0 r0 v1 v2 v3 v4 r1 r2 r3 r4 r5 r6 r7 v5 v6 r8 r9 r10 r11 v7 r12 r13 v8 v9 h1 r14 v10 v11 r15 v12 v13 r16 v14 w15 r17 v16 v17 r18 r19 r20 r21 r22 r23 v18 r24 r25 r26 v19 h1 g0 f20)) [0, 1] (by decide) rfl
        have hKc := hK.sub (tys' := [(g0, .int)]) [0] rfl
        have hFc := va_free (wc := (wd_5013416a h0 v0 r0 v1 v2 v3 v4 r1 r2 r3 r4 r5 r6 r7 v5 v6 r8 r9 r10 r11 v7 r12 r13 v8 v9 h1 r14 v10 v11 r15 v12 v13 r16 v14 w15 r17 v16 v17 r18 r19 r20 r21 r22 r23 v18 r24 r25 r26 v19 h1 g0 f20)) hD hS hA [0, 1] rfl
        refine va_calli (va_runV (As := [.int x7]) (rest := [.int x8]) ⟨hx, hb, hml, hown, hts⟩ (k_X12_isThere l dC dI h0 h1 v0 r0 v1 v2 v3 v4 r1 r2 r3 r4 r5 r6 r7 v5 v6 r8 r9 r10 r11 v7 r12 r13 v8 v9 r14 v10 v11 r15 v12 v13 r16 v14 w15 r17 v16 v17 r18 r19 r20 r21 r22 r23 v18 r24 r25 r26 v19 g0 f20 x7 ⟨i_v1a, i_v1b⟩ ⟨i_v5a, i_v5b⟩ ⟨i_v6a, i_v6b⟩ ⟨i_v7a, i_v7b⟩ ⟨i_v8a, i_v8b⟩ ⟨i_v9a, i_v9b⟩ ⟨i_v10a, i_v10b⟩ ⟨i_v14a, i_v14b⟩ ⟨i_v18a, i_v18b⟩ ⟨i_v19a, i_v19b⟩ ia_f20.1 H.size) (cwV 1 hts g_X12_bagOnes_0 rfl rfl rfl (by decide +kernel) ⟨Nat.le_of_ble_eq_true rfl, Nat.le_of_ble_eq_true rfl⟩) (pv_PV12 hPc hKc hDc (q0 := 0) rfl) rfl rfl hl.1 rfl (lv_room (Nat.le_of_ble_eq_true rfl)) dX12_bagOnes_13 ⟨Nat.le_of_ble_eq_true rfl, Nat.le_of_ble_eq_true rfl⟩) hS (fun q _ h => hFc q h) hFc (fun ra13 u t H1 locs ht hvm hwra13 hB hz1 hk1 hS => ?_)
        try rw [hwra13] at hB
        obtain ⟨pt0_ra13, pt1_ra13, pt2_ra13, pt3_ra13, pt4_ra13, pt5_ra13, hP1, hK1, hD1⟩ := hB
        rw [ht] at hP1
        obtain ⟨hP2, hD2⟩ := va_join (wr := []) (w1 := (wd_5013416a h0 v0 r0 v1 v2 v3 v4 r1 r2 r3 r4 r5 r6 r7 v5 v6 r8 r9 r10 r11 v7 r12 r13 v8 v9 h1 r14 v10 v11 r15 v12 v13 r16 v14 w15 r17 v16 v17 r18 r19 r20 r21 r22 r23 v18 r24 r25 r26 v19 h1 g0 f20)) hP hD [0, 1] [] rfl rfl (by decide) (by decide) hk1 hFc hP1 hD1
        clear hP hD hPc hDc hKc hFc hP1 hK1 hD1 hk1 hz1
        generalize H1 = H at hP2 hS ⊢
        have hP : va_P (dC, dI) vwCl (wd_5013416a h0 v0 r0 v1 v2 v3 v4 r1 r2 r3 r4 r5 r6 r7 v5 v6 r8 r9 r10 r11 v7 r12 r13 v8 v9 h1 r14 v10 v11 r15 v12 v13 r16 v14 w15 r17 v16 v17 r18 r19 r20 r21 r22 r23 v18 r24 r25 r26 v19 h1 g0 f20) H := hP2
        have hD : va_D A (wd_5013416a h0 v0 r0 v1 v2 v3 v4 r1 r2 r3 r4 r5 r6 r7 v5 v6 r8 r9 r10 r11 v7 r12 r13 v8 v9 h1 r14 v10 v11 r15 v12 v13 r16 v14 w15 r17 v16 v17 r18 r19 r20 r21 r22 r23 v18 r24 r25 r26 v19 h1 g0 f20) := hD2
        clear hP2 hD2
        have wra13 : ra13.toInt = 0 → ¬ f20 (pm_I x7 7) = 1 := fun h9 => pt5_ra13 h9 (by omega) (by omega)
        have hJ15 : ∀ (x14 : Int32) (H : Heap) (locs : List Loc) (ls : Array Slot), va_P (dC, dI) vwCl (wd_5013416a h0 v0 r0 v1 v2 v3 v4 r1 r2 r3 r4 r5 r6 r7 v5 v6 r8 r9 r10 r11 v7 r12 r13 v8 v9 h1 r14 v10 v11 r15 v12 v13 r16 v14 w15 r17 v16 v17 r18 r19 r20 r21 r22 r23 v18 r24 r25 r26 v19 h1 g0 f20) H → va_D A (wd_5013416a h0 v0 r0 v1 v2 v3 v4 r1 r2 r3 r4 r5 r6 r7 v5 v6 r8 r9 r10 r11 v7 r12 r13 v8 v9 h1 r14 v10 v11 r15 v12 v13 r16 v14 w15 r17 v16 v17 r18 r19 r20 r21 r22 r23 v18 r24 r25 r26 v19 h1 g0 f20) → va_S A s.heap H locs → lv_has ls 3 [(2, .int x7), (1, .int x8), (0, .ref h0)] → W p l e ({ frames := 2, cells := 0, slots := 0, locals := 43 }) s m ([.ref h0] : List Value).toArray below meth c H locs 0 0 Q (F0 m 26 ls [.int x14, .int x8]) := by
          intro x14 H locs ls hP hD hS hl
          refine lv_ior hx hb dX12_bagOnes_26 ?_
          refine lv_topi (fun t16 et16 => ?_)
          refine lv_istore_n (lv' := [(1, .int t16), (2, .int x7), (0, .ref h0)]) hx hb dX12_bagOnes_27 rfl hl (by decide) rfl (fun ls hl => ?_)
          obtain ⟨t17, et17⟩ : ∃ y : Int32, y = x7 + 1 := ⟨_, rfl⟩
          have gt17 : t17.toInt = x7.toInt + (1) := pv_add (a := x7.toInt) (b := (1)) et17 rfl (by decide) (by omega) (by omega)
          refine lv_iinc (v := t17) (lv' := [(2, .int t17), (1, .int t16), (0, .ref h0)]) hx hb dX12_bagOnes_28 hl (k := 1) rfl (by rw [et17]; rfl) (by decide) rfl (fun ls hl => ?_)
          refine lv_goto (tgt := 4) hx hb dX12_bagOnes_31 (by decide) ?_
          exact ih_hL11 t17 t16 H locs ls (by first | omega | decide) (by first | omega | decide) (by first | omega | (simp only [Int.toNat] at *; omega)) hP hD hS (lv_sub hl [0, 1, 2] rfl)
        refine lv_if_eq (tgt := 25) hx hb dX12_bagOnes_16 (by decide) (fun c18 => ?_) (fun c18 => ?_)
        · skip
          have fc18 : ra13.toInt = 0 := congrArg Int32.toInt c18
          have q0wra13 := wra13 (by omega)
          refine lv_iconst (v := 0) hx hb dX12_bagOnes_25 (by decide) ?_
          exact hJ15 0 H locs ls hP hD hS (lv_sub hl [0, 1, 2] rfl)
        · skip
          have fc18 : ¬ (ra13.toInt = 0) := fun h9 => c18 (Int32.toInt_inj.mp h9)
          have q1pt4_ra13 := pt4_ra13 (by omega)
          refine lv_iconst (v := 1) hx hb dX12_bagOnes_19 (by decide) ?_
          refine lv_iload_n hx hb dX12_bagOnes_20 rfl (lv_at hl 0 rfl) ?_
          refine lv_ishl hx hb dX12_bagOnes_21 ?_
          refine lv_topi (fun t19 et19 => ?_)
          refine lv_goto (tgt := 26) hx hb dX12_bagOnes_22 (by decide) ?_
          exact hJ15 t19 H locs ls hP hD hS (lv_sub hl [0, 1, 2] rfl)
  exact hL11 _ 0 0 H locs ls (by decide) (by decide) (Nat.lt_succ_self _) hP hD hS (lv_sub hl [0, 1, 2] rfl)
def q_X12_of_4 : List Cond := .code yX12_of cX12_of 3 (some .int) :: (([.fieldLink RX12 52 "LeftArgumentsModel" "now" "[I"] : List Cond) ++ wsX120)
set_option maxHeartbeats 4000000 in
set_option maxRecDepth 100000 in
theorem k_X12_of_4 (l : Launch) (dC : Nat → ClassId) (dI : Nat → Nat → Nat) (h0 : Nat) (h1 : Nat) (v0 : Int32) (r0 : Nat) (v1 : Int32) (v2 : Int32) (v3 : Int32) (v4 : Int32) (r1 : Nat) (r2 : Nat) (r3 : Nat) (r4 : Nat) (r5 : Nat) (r6 : Nat) (r7 : Nat) (v5 : Int32) (v6 : Int32) (r8 : Nat) (r9 : Nat) (r10 : Nat) (r11 : Nat) (v7 : Int32) (r12 : Nat) (r13 : Nat) (v8 : Int32) (v9 : Int32) (r14 : Nat) (v10 : Int32) (v11 : Int32) (r15 : Nat) (v12 : Int32) (v13 : Int32) (r16 : Nat) (v14 : Int32) (w15 : Int64) (r17 : Nat) (v16 : Int32) (v17 : Int32) (r18 : Nat) (r19 : Nat) (r20 : Nat) (r21 : Nat) (r22 : Nat) (r23 : Nat) (v18 : Int32) (r24 : Nat) (r25 : Nat) (r26 : Nat) (v19 : Int32) (g0 : ClassId) (f20 : Nat → Int32) (v21 : Int32) (i_v1 : 0 ≤ v1.toInt ∧ v1.toInt ≤ 240) (i_v5 : 0 ≤ v5.toInt ∧ v5.toInt ≤ 4) (i_v6 : 0 ≤ v6.toInt ∧ v6.toInt ≤ 4) (i_v7 : 0 ≤ v7.toInt ∧ v7.toInt ≤ 8) (i_v8 : 0 ≤ v8.toInt ∧ v8.toInt ≤ 8) (i_v9 : 0 ≤ v9.toInt ∧ v9.toInt ≤ 1) (i_v10 : -1 ≤ v10.toInt ∧ v10.toInt ≤ 3) (i_v14 : 0 ≤ v14.toInt ∧ v14.toInt ≤ 40) (i_v18 : 0 ≤ v18.toInt ∧ v18.toInt ≤ 10) (i_v19 : 0 ≤ v19.toInt ∧ v19.toInt ≤ 1) (i_v21 : 0 ≤ v21.toInt ∧ v21.toInt ≤ 7) (ia_f20 : (pm_NW0 f20)) (sz : Nat) : Met l yX12_of q_X12_of_4 ({ frames := 0, cells := 0, slots := 0, locals := 0 }) (va_Pc [.ref h0, .int v21, .int 3] (fun U => U.heap.size = sz ∧ va_P (dC, dI) vwCl (wd_5013416a h0 v0 r0 v1 v2 v3 v4 r1 r2 r3 r4 r5 r6 r7 v5 v6 r8 r9 r10 r11 v7 r12 r13 v8 v9 h1 r14 v10 v11 r15 v12 v13 r16 v14 w15 r17 v16 v17 r18 r19 r20 r21 r22 r23 v18 r24 r25 r26 v19 h1 g0 f20) U.heap ∧ va_K (dC, dI) vwCl [(g0, .int)] U ∧ va_D (fun _ => True) (wd_5013416a h0 v0 r0 v1 v2 v3 v4 r1 r2 r3 r4 r5 r6 r7 v5 v6 r8 r9 r10 r11 v7 r12 r13 v8 v9 h1 r14 v10 v11 r15 v12 v13 r16 v14 w15 r17 v16 v17 r18 r19 r20 r21 r22 r23 v18 r24 r25 r26 v19 h1 g0 f20))) (va_Qi (fun (r : Int32) (r9 : Int32) => r9 = r) (fun (r : Int32) (t : State) => ((r = f20 (pm_I v21 3)) ∧ va_P (dC, dI) vwCl (wd_5013416a h0 v0 r0 v1 v2 v3 v4 r1 r2 r3 r4 r5 r6 r7 v5 v6 r8 r9 r10 r11 v7 r12 r13 v8 v9 h1 r14 v10 v11 r15 v12 v13 r16 v14 w15 r17 v16 v17 r18 r19 r20 r21 r22 r23 v18 r24 r25 r26 v19 h1 g0 f20) t.heap ∧ va_K (dC, dI) vwCl [] t ∧ va_D (va_A (wd_5013416a h0 v0 r0 v1 v2 v3 v4 r1 r2 r3 r4 r5 r6 r7 v5 v6 r8 r9 r10 r11 v7 r12 r13 v8 v9 h1 r14 v10 v11 r15 v12 v13 r16 v14 w15 r17 v16 v17 r18 r19 r20 r21 r22 r23 v18 r24 r25 r26 v19 h1 g0 f20) sz) (wd_5013416a h0 v0 r0 v1 v2 v3 v4 r1 r2 r3 r4 r5 r6 r7 v5 v6 r8 r9 r10 r11 v7 r12 r13 v8 v9 h1 r14 v10 v11 r15 v12 v13 r16 v14 w15 r17 v16 v17 r18 r19 r20 r21 r22 r23 v18 r24 r25 r26 v19 h1 g0 f20))) (va_A (wd_5013416a h0 v0 r0 v1 v2 v3 v4 r1 r2 r3 r4 r5 r6 r7 v5 v6 r8 r9 r10 r11 v7 r12 r13 v8 v9 h1 r14 v10 v11 r15 v12 v13 r16 v14 w15 r17 v16 v17 r18 r19 r20 r21 r22 r23 v18 r24 r25 r26 v19 h1 g0 f20) sz)) 0 0 (va_A (wd_5013416a h0 v0 r0 v1 v2 v3 v4 r1 r2 r3 r4 r5 r6 r7 v5 v6 r8 r9 r10 r11 v7 r12 r13 v8 v9 h1 r14 v10 v11 r15 v12 v13 r16 v14 w15 r17 v16 v17 r18 r19 r20 r21 r22 r23 v18 r24 r25 r26 v19 h1 g0 f20) sz) := by
  refine Met.ofW (cc := cX12_of) (maxL := 3) (ret := (some .int)) (by decide) rfl ?_
  intro p e s m args below meth c s₁ B hml hv
  obtain ⟨i_v1a, i_v1b⟩ := i_v1
  obtain ⟨i_v5a, i_v5b⟩ := i_v5
  obtain ⟨i_v6a, i_v6b⟩ := i_v6
  obtain ⟨i_v7a, i_v7b⟩ := i_v7
  obtain ⟨i_v8a, i_v8b⟩ := i_v8
  obtain ⟨i_v9a, i_v9b⟩ := i_v9
  obtain ⟨i_v10a, i_v10b⟩ := i_v10
  obtain ⟨i_v14a, i_v14b⟩ := i_v14
  obtain ⟨i_v18a, i_v18b⟩ := i_v18
  obtain ⟨i_v19a, i_v19b⟩ := i_v19
  obtain ⟨i_v21a, i_v21b⟩ := i_v21
  obtain ⟨rfl, hsz, hP, hK, hD0⟩ := hv
  have hx := B.exec
  have hb := B.bytes
  have hr := B.returns
  have hts := atoms_spec (ws := q_X12_of_4) B.pre
  have hown : s.vm.findClass RX12 = some m.cls := findClass_of_methodNamed B.named
  have hlocks := B.notSynchronized
  subst hsz
  have hD := hD0.self (sz := s.heap.size)
  generalize hAe : va_A (wd_5013416a h0 v0 r0 v1 v2 v3 v4 r1 r2 r3 r4 r5 r6 r7 v5 v6 r8 r9 r10 r11 v7 r12 r13 v8 v9 h1 r14 v10 v11 r15 v12 v13 r16 v14 w15 r17 v16 v17 r18 r19 r20 r21 r22 r23 v18 r24 r25 r26 v19 h1 g0 f20) s.heap.size = A at hD ⊢
  have hA : ∀ q : Nat, s.heap.size ≤ q → A q := fun q h => by rw [← hAe]; exact Or.inr h
  have hS : va_S A s.heap s.heap [] := va_S.rf
  generalize hQ : (MQ below _ _ s 0 0 A) = Q
  have hl := lv_entry ([.ref h0, .int v21, .int 3]) (n := 3) (Nat.le_of_ble_eq_true rfl)
  rw [lg_entry_eq]
  generalize (lg_sl ([.ref h0, .int v21, .int 3]) ++ List.replicate (3 - (lg_sl ([.ref h0, .int v21, .int 3])).length) Slot.unset).toArray = ls at hl ⊢
  have hl : lv_has ls 3 [(0, .ref h0), (1, .int v21), (2, .int 3)] := hl
  obtain ⟨H, hH⟩ : ∃ H : Heap, H = s.heap := ⟨_, rfl⟩
  obtain ⟨locs, hlocs⟩ : ∃ y : List Loc, y = [] := ⟨_, rfl⟩
  have hS : va_S A s.heap H locs := by rw [hH, hlocs]; exact va_S.rf
  have hP : va_P (dC, dI) vwCl (wd_5013416a h0 v0 r0 v1 v2 v3 v4 r1 r2 r3 r4 r5 r6 r7 v5 v6 r8 r9 r10 r11 v7 r12 r13 v8 v9 h1 r14 v10 v11 r15 v12 v13 r16 v14 w15 r17 v16 v17 r18 r19 r20 r21 r22 r23 v18 r24 r25 r26 v19 h1 g0 f20) H := by rw [hH]; exact hP
  rw [← hH, ← hlocs]
  refine lv_aload_n hx hb dX12_of_0 rfl (lv_at hl 0 rfl) ?_
  refine va_get (D := (dC, dI)) (ci := 12) (v := .ref h1) (C := RX12) (T := TX12) (N := 48) hx hb hts (fun _ h => List.mem_cons_of_mem _ (List.mem_append_right _ h)) hown hK hP 0 rfl rfl 24 (by decide) (hts (.fieldLink RX12 52 "LeftArgumentsModel" "now" "[I") (List.mem_cons_of_mem _ (List.mem_append_left _ (List.mem_of_getElem? (i := 0) rfl)))) (fun _ h9 => h9) rfl dX12_of_1 ?_
  refine lv_bipush (v := 8) hx hb dX12_of_4 (by decide) ?_
  refine lv_iload_n hx hb dX12_of_6 rfl (lv_at hl 1 rfl) ?_
  refine lv_imul hx hb dX12_of_7 ?_
  refine lv_topi (fun t1 et1 => ?_)
  have gt1 : t1.toInt = 8 * v21.toInt := pv_mul (a := 8) (b := v21.toInt) et1 (by decide) rfl (by omega) (by omega)
  refine lv_iload_n hx hb dX12_of_8 rfl (lv_at hl 2 rfl) ?_
  refine lv_iadd hx hb dX12_of_9 ?_
  refine lv_topi (fun t2 et2 => ?_)
  have gt2 : t2.toInt = t1.toInt + 3 := pv_add (a := t1.toInt) (b := 3) et2 rfl (by decide) (by omega) (by omega)
  refine va_iald hx hb hK hP 1 0 rfl rfl (vp_in_iff.mpr ⟨by omega, by omega⟩) dX12_of_10 ?_
  refine lv_topi (fun t3 et3 => ?_)
  subst hQ
  have hP9 := hP.sub (ws' := (wd_5013416a h0 v0 r0 v1 v2 v3 v4 r1 r2 r3 r4 r5 r6 r7 v5 v6 r8 r9 r10 r11 v7 r12 r13 v8 v9 h1 r14 v10 v11 r15 v12 v13 r16 v14 w15 r17 v16 v17 r18 r19 r20 r21 r22 r23 v18 r24 r25 r26 v19 h1 g0 f20)) [0, 1] rfl
  have hD9 := hD.sub (ws' := (wd_5013416a h0 v0 r0 v1 v2 v3 v4 r1 r2 r3 r4 r5 r6 r7 v5 v6 r8 r9 r10 r11 v7 r12 r13 v8 v9 h1 r14 v10 v11 r15 v12 v13 r16 v14 w15 r17 v16 v17 r18 r19 r20 r21 r22 r23 v18 r24 r25 r26 v19 h1 g0 f20)) [0, 1] (by decide) rfl
  have hK9 := hK.sub (tys' := []) [] rfl
  exact W.iret (v := t3) hx hb hr (fun t ht hW => ⟨⟨t3, t3, rfl, rfl, ⟨by subst_vars; rfl, by rw [ht]; exact hP9, va_K.moved hW.alike hK9, hD9⟩⟩, hS.F ht⟩) hS.2.2 dX12_of_11
def q_X12_loadOf : List Cond := .code yX12_loadOf cX12_loadOf 4 (some .int) :: (([.code yX12_isThere cX12_isThere 2 (some .boolean), .code yX12_in cX12_in 3 (some .boolean), .initialized RX12, .static yX12_in, .methodLink RX12 217 yX12_in, .code yX12_of cX12_of 3 (some .int), .fieldLink RX12 52 "LeftArgumentsModel" "now" "[I", .instanceMethod yX12_of, .selects RX12 yX12_of yX12_of, .methodLink RX12 287 yX12_of, .instanceMethod yX12_isThere, .selects RX12 yX12_isThere yX12_isThere, .methodLink RX12 290 yX12_isThere] : List Cond) ++ wsX120)
set_option maxRecDepth 20000 in
theorem g_X12_loadOf_0 : GoodIn q_X12_loadOf (wsV RX12 290 RX12 yX12_isThere q_X12_isThere) := goodIn_app (goodIn_r _ [13, 11, 12, 3] rfl (by decide +kernel)) (goodIn_ca (goodIn_r (.code yX12_isThere cX12_isThere 2 (some .boolean) :: [.code yX12_in cX12_in 3 (some .boolean), .initialized RX12, .static yX12_in, .methodLink RX12 217 yX12_in, .code yX12_of cX12_of 3 (some .int), .fieldLink RX12 52 "LeftArgumentsModel" "now" "[I", .instanceMethod yX12_of, .selects RX12 yX12_of yX12_of, .methodLink RX12 287 yX12_of]) [1, 2, 3, 4, 5, 6, 7, 8, 9, 10] rfl (by decide +kernel)) (goodIn_sub (fun _ h => List.mem_cons_of_mem _ (List.mem_append_right _ h)) gwX12))
set_option maxRecDepth 20000 in
theorem g_X12_loadOf_1 : GoodIn q_X12_loadOf (wsV RX12 287 RX12 yX12_of q_X12_of_4) := goodIn_app (goodIn_r _ [10, 8, 9, 3] rfl (by decide +kernel)) (goodIn_ca (goodIn_r (.code yX12_of cX12_of 3 (some .int) :: [.fieldLink RX12 52 "LeftArgumentsModel" "now" "[I"]) [6, 7] rfl (by decide +kernel)) (goodIn_sub (fun _ h => List.mem_cons_of_mem _ (List.mem_append_right _ h)) gwX12))
set_option maxRecDepth 20000 in
theorem g_X12_loadOf_2 : GoodIn q_X12_loadOf (wsV RX12 287 RX12 yX12_of q_X12_of_3) := goodIn_app (goodIn_r _ [10, 8, 9, 3] rfl (by decide +kernel)) (goodIn_ca (goodIn_r (.code yX12_of cX12_of 3 (some .int) :: [.fieldLink RX12 52 "LeftArgumentsModel" "now" "[I"]) [6, 7] rfl (by decide +kernel)) (goodIn_sub (fun _ h => List.mem_cons_of_mem _ (List.mem_append_right _ h)) gwX12))
set_option maxHeartbeats 4000000 in
set_option maxRecDepth 100000 in
theorem k_X12_loadOf (l : Launch) (dC : Nat → ClassId) (dI : Nat → Nat → Nat) (h0 : Nat) (h1 : Nat) (v0 : Int32) (r0 : Nat) (v1 : Int32) (v2 : Int32) (v3 : Int32) (v4 : Int32) (r1 : Nat) (r2 : Nat) (r3 : Nat) (r4 : Nat) (r5 : Nat) (r6 : Nat) (r7 : Nat) (v5 : Int32) (v6 : Int32) (r8 : Nat) (r9 : Nat) (r10 : Nat) (r11 : Nat) (v7 : Int32) (r12 : Nat) (r13 : Nat) (v8 : Int32) (v9 : Int32) (r14 : Nat) (v10 : Int32) (v11 : Int32) (r15 : Nat) (v12 : Int32) (v13 : Int32) (r16 : Nat) (v14 : Int32) (w15 : Int64) (r17 : Nat) (v16 : Int32) (v17 : Int32) (r18 : Nat) (r19 : Nat) (r20 : Nat) (r21 : Nat) (r22 : Nat) (r23 : Nat) (v18 : Int32) (r24 : Nat) (r25 : Nat) (r26 : Nat) (v19 : Int32) (g0 : ClassId) (f20 : Nat → Int32) (v21 : Int32) (i_v1 : 0 ≤ v1.toInt ∧ v1.toInt ≤ 240) (i_v5 : 0 ≤ v5.toInt ∧ v5.toInt ≤ 4) (i_v6 : 0 ≤ v6.toInt ∧ v6.toInt ≤ 4) (i_v7 : 0 ≤ v7.toInt ∧ v7.toInt ≤ 8) (i_v8 : 0 ≤ v8.toInt ∧ v8.toInt ≤ 8) (i_v9 : 0 ≤ v9.toInt ∧ v9.toInt ≤ 1) (i_v10 : -1 ≤ v10.toInt ∧ v10.toInt ≤ 3) (i_v14 : 0 ≤ v14.toInt ∧ v14.toInt ≤ 40) (i_v18 : 0 ≤ v18.toInt ∧ v18.toInt ≤ 10) (i_v19 : 0 ≤ v19.toInt ∧ v19.toInt ≤ 1) (ia_f20 : (pm_NW f20)) (sz : Nat) : Met l yX12_loadOf q_X12_loadOf ({ frames := 2, cells := 0, slots := 0, locals := 43 }) (va_Pc [.ref h0, .int v21] (fun U => U.heap.size = sz ∧ va_P (dC, dI) vwCl (wd_5013416a h0 v0 r0 v1 v2 v3 v4 r1 r2 r3 r4 r5 r6 r7 v5 v6 r8 r9 r10 r11 v7 r12 r13 v8 v9 h1 r14 v10 v11 r15 v12 v13 r16 v14 w15 r17 v16 v17 r18 r19 r20 r21 r22 r23 v18 r24 r25 r26 v19 h1 g0 f20) U.heap ∧ va_K (dC, dI) vwCl [(g0, .int)] U ∧ va_D (fun _ => True) (wd_5013416a h0 v0 r0 v1 v2 v3 v4 r1 r2 r3 r4 r5 r6 r7 v5 v6 r8 r9 r10 r11 v7 r12 r13 v8 v9 h1 r14 v10 v11 r15 v12 v13 r16 v14 w15 r17 v16 v17 r18 r19 r20 r21 r22 r23 v18 r24 r25 r26 v19 h1 g0 f20))) (va_Qi (fun (r : Int32) (r9 : Int32) => r9 = r) (fun (r : Int32) (t : State) => ((r.toInt = 0 ∨ pm_on f20 v21) ∧ va_P (dC, dI) vwCl (wd_5013416a h0 v0 r0 v1 v2 v3 v4 r1 r2 r3 r4 r5 r6 r7 v5 v6 r8 r9 r10 r11 v7 r12 r13 v8 v9 h1 r14 v10 v11 r15 v12 v13 r16 v14 w15 r17 v16 v17 r18 r19 r20 r21 r22 r23 v18 r24 r25 r26 v19 h1 g0 f20) t.heap ∧ va_K (dC, dI) vwCl [] t ∧ va_D (va_A (wd_5013416a h0 v0 r0 v1 v2 v3 v4 r1 r2 r3 r4 r5 r6 r7 v5 v6 r8 r9 r10 r11 v7 r12 r13 v8 v9 h1 r14 v10 v11 r15 v12 v13 r16 v14 w15 r17 v16 v17 r18 r19 r20 r21 r22 r23 v18 r24 r25 r26 v19 h1 g0 f20) sz) (wd_5013416a h0 v0 r0 v1 v2 v3 v4 r1 r2 r3 r4 r5 r6 r7 v5 v6 r8 r9 r10 r11 v7 r12 r13 v8 v9 h1 r14 v10 v11 r15 v12 v13 r16 v14 w15 r17 v16 v17 r18 r19 r20 r21 r22 r23 v18 r24 r25 r26 v19 h1 g0 f20))) (va_A (wd_5013416a h0 v0 r0 v1 v2 v3 v4 r1 r2 r3 r4 r5 r6 r7 v5 v6 r8 r9 r10 r11 v7 r12 r13 v8 v9 h1 r14 v10 v11 r15 v12 v13 r16 v14 w15 r17 v16 v17 r18 r19 r20 r21 r22 r23 v18 r24 r25 r26 v19 h1 g0 f20) sz)) 0 0 (va_A (wd_5013416a h0 v0 r0 v1 v2 v3 v4 r1 r2 r3 r4 r5 r6 r7 v5 v6 r8 r9 r10 r11 v7 r12 r13 v8 v9 h1 r14 v10 v11 r15 v12 v13 r16 v14 w15 r17 v16 v17 r18 r19 r20 r21 r22 r23 v18 r24 r25 r26 v19 h1 g0 f20) sz) := by
  refine Met.ofW (cc := cX12_loadOf) (maxL := 4) (ret := (some .int)) (by decide) rfl ?_
  intro p e s m args below meth c s₁ B hml hv
  obtain ⟨i_v1a, i_v1b⟩ := i_v1
  obtain ⟨i_v5a, i_v5b⟩ := i_v5
  obtain ⟨i_v6a, i_v6b⟩ := i_v6
  obtain ⟨i_v7a, i_v7b⟩ := i_v7
  obtain ⟨i_v8a, i_v8b⟩ := i_v8
  obtain ⟨i_v9a, i_v9b⟩ := i_v9
  obtain ⟨i_v10a, i_v10b⟩ := i_v10
  obtain ⟨i_v14a, i_v14b⟩ := i_v14
  obtain ⟨i_v18a, i_v18b⟩ := i_v18
  obtain ⟨i_v19a, i_v19b⟩ := i_v19
  obtain ⟨rfl, hsz, hP, hK, hD0⟩ := hv
  have hx := B.exec
  have hb := B.bytes
  have hr := B.returns
  have hts := atoms_spec (ws := q_X12_loadOf) B.pre
  have hown : s.vm.findClass RX12 = some m.cls := findClass_of_methodNamed B.named
  have hlocks := B.notSynchronized
  subst hsz
  have hD := hD0.self (sz := s.heap.size)
  generalize hAe : va_A (wd_5013416a h0 v0 r0 v1 v2 v3 v4 r1 r2 r3 r4 r5 r6 r7 v5 v6 r8 r9 r10 r11 v7 r12 r13 v8 v9 h1 r14 v10 v11 r15 v12 v13 r16 v14 w15 r17 v16 v17 r18 r19 r20 r21 r22 r23 v18 r24 r25 r26 v19 h1 g0 f20) s.heap.size = A at hD ⊢
  have hA : ∀ q : Nat, s.heap.size ≤ q → A q := fun q h => by rw [← hAe]; exact Or.inr h
  have hS : va_S A s.heap s.heap [] := va_S.rf
  generalize hQ : (MQ below _ _ s 0 0 A) = Q
  have hl := lv_entry ([.ref h0, .int v21]) (n := 4) (Nat.le_of_ble_eq_true rfl)
  rw [lg_entry_eq]
  generalize (lg_sl ([.ref h0, .int v21]) ++ List.replicate (4 - (lg_sl ([.ref h0, .int v21])).length) Slot.unset).toArray = ls at hl ⊢
  have hl : lv_has ls 4 [(0, .ref h0), (1, .int v21)] := hl
  obtain ⟨H, hH⟩ : ∃ H : Heap, H = s.heap := ⟨_, rfl⟩
  obtain ⟨locs, hlocs⟩ : ∃ y : List Loc, y = [] := ⟨_, rfl⟩
  have hS : va_S A s.heap H locs := by rw [hH, hlocs]; exact va_S.rf
  have hP : va_P (dC, dI) vwCl (wd_5013416a h0 v0 r0 v1 v2 v3 v4 r1 r2 r3 r4 r5 r6 r7 v5 v6 r8 r9 r10 r11 v7 r12 r13 v8 v9 h1 r14 v10 v11 r15 v12 v13 r16 v14 w15 r17 v16 v17 r18 r19 r20 r21 r22 r23 v18 r24 r25 r26 v19 h1 g0 f20) H := by rw [hH]; exact hP
  rw [← hH, ← hlocs]
  refine lv_iconst (v := 0) hx hb dX12_loadOf_0 (by decide) ?_
  refine lv_istore_n (lv' := [(2, .int 0), (0, .ref h0), (1, .int v21)]) hx hb dX12_loadOf_1 rfl hl (by decide) rfl (fun ls hl => ?_)
  refine lv_iconst (v := 0) hx hb dX12_loadOf_2 (by decide) ?_
  refine lv_istore_n (lv' := [(3, .int 0), (2, .int 0), (0, .ref h0), (1, .int v21)]) hx hb dX12_loadOf_3 rfl hl (by decide) rfl (fun ls hl => ?_)
  have hL15 : ∀ (n9 : Nat), ∀ (x11 : Int32) (x12 : Int32) (H : Heap) (locs : List Loc) (ls : Array Slot), 0 ≤ x11.toInt → x11.toInt ≤ 8 → ((x12.toInt = 0 ∨ pm_on f20 v21)) → (8 - x11.toInt).toNat < n9 → va_P (dC, dI) vwCl (wd_5013416a h0 v0 r0 v1 v2 v3 v4 r1 r2 r3 r4 r5 r6 r7 v5 v6 r8 r9 r10 r11 v7 r12 r13 v8 v9 h1 r14 v10 v11 r15 v12 v13 r16 v14 w15 r17 v16 v17 r18 r19 r20 r21 r22 r23 v18 r24 r25 r26 v19 h1 g0 f20) H → va_D A (wd_5013416a h0 v0 r0 v1 v2 v3 v4 r1 r2 r3 r4 r5 r6 r7 v5 v6 r8 r9 r10 r11 v7 r12 r13 v8 v9 h1 r14 v10 v11 r15 v12 v13 r16 v14 w15 r17 v16 v17 r18 r19 r20 r21 r22 r23 v18 r24 r25 r26 v19 h1 g0 f20) → va_S A s.heap H locs → lv_has ls 4 [(3, .int x11), (2, .int x12), (0, .ref h0), (1, .int v21)] → W p l e ({ frames := 2, cells := 0, slots := 0, locals := 43 }) s m ([.ref h0, .int v21] : List Value).toArray below meth c H locs 0 0 Q (F0 m 4 ls []) := by
    intro n9
    induction n9 with
    | zero => intro x11 x12 H locs ls qa_x11 qb_x11 gh0_hL15 hm9 hP hD hS hl; exact absurd hm9 (Nat.not_lt_zero _)
    | succ n9 ih_hL15 =>
      intro x11 x12 H locs ls qa_x11 qb_x11 gh0_hL15 hm9 hP hD hS hl
      refine lv_iload_n hx hb dX12_loadOf_4 rfl (lv_at hl 0 rfl) ?_
      refine lv_bipush (v := 8) hx hb dX12_loadOf_5 (by decide) ?_
      refine lv_icmp_ge (tgt := 47) hx hb dX12_loadOf_7 (by decide) (fun c16 => ?_) (fun c16 => ?_)
      · skip
        have fc16 : 8 ≤ x11.toInt := Int32.le_iff_toInt_le.mp c16
        refine lv_iload_n hx hb dX12_loadOf_47 rfl (lv_at hl 1 rfl) ?_
        subst hQ
        have hP9 := hP.sub (ws' := (wd_5013416a h0 v0 r0 v1 v2 v3 v4 r1 r2 r3 r4 r5 r6 r7 v5 v6 r8 r9 r10 r11 v7 r12 r13 v8 v9 h1 r14 v10 v11 r15 v12 v13 r16 v14 w15 r17 v16 v17 r18 r19 r20 r21 r22 r23 v18 r24 r25 r26 v19 h1 g0 f20)) [0, 1] rfl
        have hD9 := hD.sub (ws' := (wd_5013416a h0 v0 r0 v1 v2 v3 v4 r1 r2 r3 r4 r5 r6 r7 v5 v6 r8 r9 r10 r11 v7 r12 r13 v8 v9 h1 r14 v10 v11 r15 v12 v13 r16 v14 w15 r17 v16 v17 r18 r19 r20 r21 r22 r23 v18 r24 r25 r26 v19 h1 g0 f20)) [0, 1] (by decide) rfl
        have hK9 := hK.sub (tys' := []) [] rfl
        exact W.iret (v := x12) hx hb hr (fun t ht hW => ⟨⟨x12, x12, rfl, rfl, ⟨by assumption, by rw [ht]; exact hP9, va_K.moved hW.alike hK9, hD9⟩⟩, hS.F ht⟩) hS.2.2 dX12_loadOf_48
      · skip
        have fc16 : ¬ (8 ≤ x11.toInt) := fun h9 => c16 (Int32.le_iff_toInt_le.mpr h9)
        refine lv_iload_n hx hb dX12_loadOf_10 rfl (lv_at hl 1 rfl) ?_
        refine lv_aload_n hx hb dX12_loadOf_11 rfl (lv_at hl 2 rfl) ?_
        refine lv_iload_n hx hb dX12_loadOf_12 rfl (lv_at hl 0 rfl) ?_
        have hPc := hP.sub (ws' := (wd_5013416a h0 v0 r0 v1 v2 v3 v4 r1 r2 r3 r4 r5 r6 r7 v5 v6 r8 r9 r10 r11 v7 r12 r13 v8 v9 h1 r14 v10 v11 r15 v12 v13 r16 v14 w15 r17 v16 v17 r18 r19 r20 r21 r22 r23 v18 r24 r25 r26 v19 h1 g0 f20)) [0, 1] rfl
        have hDc := hD.sub (ws' := (wd_5013416a h0 v0 r0 v1 v2 v3 v4 r1 r2 r3 r4 r5 r6 r7 v5 v6 r8 r9 r10 r11 v7 r12 r13 v8 v9 h1 r14 v10 v11 r15 v12 v13 r16 v14 w15 r17 v16 v17 r18 r19 r20 r21 r22 r23 v18 r24 r25 r26 v19 h1 g0 f20)) [0, 1] (by decide) rfl
        have hKc := hK.sub (tys' := [(g0, .int)]) [0] rfl
        have hFc := va_free (wc := (wd_5013416a h0 v0 r0 v1 v2 v3 v4 r1 r2 r3 r4 r5 r6 r7 v5 v6 r8 r9 r10 r11 v7 r12 r13 v8 v9 h1 r14 v10 v11 r15 v12 v13 r16 v14 w15 r17 v16 v17 r18 r19 r20 r21 r22 r23 v18 r24 r25 r26 v19 h1 g0 f20)) hD hS hA [0, 1] rfl
        refine va_calli (va_runV (As := [.int x11]) (rest := [.int x12]) ⟨hx, hb, hml, hown, hts⟩ (k_X12_isThere l dC dI h0 h1 v0 r0 v1 v2 v3 v4 r1 r2 r3 r4 r5 r6 r7 v5 v6 r8 r9 r10 r11 v7 r12 r13 v8 v9 r14 v10 v11 r15 v12 v13 r16 v14 w15 r17 v16 v17 r18 r19 r20 r21 r22 r23 v18 r24 r25 r26 v19 g0 f20 x11 ⟨i_v1a, i_v1b⟩ ⟨i_v5a, i_v5b⟩ ⟨i_v6a, i_v6b⟩ ⟨i_v7a, i_v7b⟩ ⟨i_v8a, i_v8b⟩ ⟨i_v9a, i_v9b⟩ ⟨i_v10a, i_v10b⟩ ⟨i_v14a, i_v14b⟩ ⟨i_v18a, i_v18b⟩ ⟨i_v19a, i_v19b⟩ ia_f20.1 H.size) (cwV 1 hts g_X12_loadOf_0 rfl rfl rfl (by decide +kernel) ⟨Nat.le_of_ble_eq_true rfl, Nat.le_of_ble_eq_true rfl⟩) (pv_PV12 hPc hKc hDc (q0 := 0) rfl) rfl rfl hl.1 rfl (lv_room (Nat.le_of_ble_eq_true rfl)) dX12_loadOf_13 ⟨Nat.le_of_ble_eq_true rfl, Nat.le_of_ble_eq_true rfl⟩) hS (fun q _ h => hFc q h) hFc (fun ra17 u t H1 locs ht hvm hwra17 hB hz1 hk1 hS => ?_)
        try rw [hwra17] at hB
        obtain ⟨pt0_ra17, pt1_ra17, pt2_ra17, pt3_ra17, pt4_ra17, pt5_ra17, hP1, hK1, hD1⟩ := hB
        rw [ht] at hP1
        obtain ⟨hP2, hD2⟩ := va_join (wr := []) (w1 := (wd_5013416a h0 v0 r0 v1 v2 v3 v4 r1 r2 r3 r4 r5 r6 r7 v5 v6 r8 r9 r10 r11 v7 r12 r13 v8 v9 h1 r14 v10 v11 r15 v12 v13 r16 v14 w15 r17 v16 v17 r18 r19 r20 r21 r22 r23 v18 r24 r25 r26 v19 h1 g0 f20)) hP hD [0, 1] [] rfl rfl (by decide) (by decide) hk1 hFc hP1 hD1
        clear hP hD hPc hDc hKc hFc hP1 hK1 hD1 hk1 hz1
        generalize H1 = H at hP2 hS ⊢
        have hP : va_P (dC, dI) vwCl (wd_5013416a h0 v0 r0 v1 v2 v3 v4 r1 r2 r3 r4 r5 r6 r7 v5 v6 r8 r9 r10 r11 v7 r12 r13 v8 v9 h1 r14 v10 v11 r15 v12 v13 r16 v14 w15 r17 v16 v17 r18 r19 r20 r21 r22 r23 v18 r24 r25 r26 v19 h1 g0 f20) H := hP2
        have hD : va_D A (wd_5013416a h0 v0 r0 v1 v2 v3 v4 r1 r2 r3 r4 r5 r6 r7 v5 v6 r8 r9 r10 r11 v7 r12 r13 v8 v9 h1 r14 v10 v11 r15 v12 v13 r16 v14 w15 r17 v16 v17 r18 r19 r20 r21 r22 r23 v18 r24 r25 r26 v19 h1 g0 f20) := hD2
        clear hP2 hD2
        have wra17 : ra17.toInt = 0 → ¬ f20 (pm_I x11 7) = 1 := fun h9 => pt5_ra17 h9 (by omega) (by omega)
        refine lv_if_eq (tgt := 38) hx hb dX12_loadOf_16 (by decide) (fun c18 => ?_) (fun c18 => ?_)
        · skip
          have fc18 : ra17.toInt = 0 := congrArg Int32.toInt c18
          have q0wra17 := wra17 (by omega)
          refine lv_iconst (v := 0) hx hb dX12_loadOf_38 (by decide) ?_
          refine lv_iadd hx hb dX12_loadOf_39 ?_
          refine lv_topi (fun t19 et19 => ?_)
          have r5t19x12 := Int32.le_toInt x12; have r6t19x12 := Int32.toInt_lt x12
          have gt19 : t19.toInt = x12.toInt + 0 := pv_add (a := x12.toInt) (b := 0) et19 rfl (by decide) (by omega) (by omega)
          refine lv_istore_n (lv' := [(2, .int t19), (3, .int x11), (0, .ref h0), (1, .int v21)]) hx hb dX12_loadOf_40 rfl hl (by decide) rfl (fun ls hl => ?_)
          obtain ⟨t20, et20⟩ : ∃ y : Int32, y = x11 + 1 := ⟨_, rfl⟩
          have gt20 : t20.toInt = x11.toInt + (1) := pv_add (a := x11.toInt) (b := (1)) et20 rfl (by decide) (by omega) (by omega)
          refine lv_iinc (v := t20) (lv' := [(3, .int t20), (2, .int t19), (0, .ref h0), (1, .int v21)]) hx hb dX12_loadOf_41 hl (k := 1) rfl (by rw [et20]; rfl) (by decide) rfl (fun ls hl => ?_)
          refine lv_goto (tgt := 4) hx hb dX12_loadOf_44 (by decide) ?_
          exact ih_hL15 t20 t19 H locs ls (by first | omega | decide) (by first | omega | decide) (by first | exact Or.inl (by decide) | (apply pm_or0 <;> first | assumption | omega) | (apply Or.inr; apply pm_on.mk <;> first | assumption | omega)) (by first | omega | (simp only [Int.toNat] at *; omega)) hP hD hS (lv_sub hl [0, 1, 2, 3] rfl)
        · skip
          have fc18 : ¬ (ra17.toInt = 0) := fun h9 => c18 (Int32.toInt_inj.mp h9)
          have q1pt4_ra17 := pt4_ra17 (by omega)
          refine lv_aload_n hx hb dX12_loadOf_19 rfl (lv_at hl 2 rfl) ?_
          refine lv_iload_n hx hb dX12_loadOf_20 rfl (lv_at hl 0 rfl) ?_
          refine lv_iconst (v := 3) hx hb dX12_loadOf_21 (by decide) ?_
          have hPc := hP.sub (ws' := (wd_5013416a h0 v0 r0 v1 v2 v3 v4 r1 r2 r3 r4 r5 r6 r7 v5 v6 r8 r9 r10 r11 v7 r12 r13 v8 v9 h1 r14 v10 v11 r15 v12 v13 r16 v14 w15 r17 v16 v17 r18 r19 r20 r21 r22 r23 v18 r24 r25 r26 v19 h1 g0 f20)) [0, 1] rfl
          have hDc := hD.sub (ws' := (wd_5013416a h0 v0 r0 v1 v2 v3 v4 r1 r2 r3 r4 r5 r6 r7 v5 v6 r8 r9 r10 r11 v7 r12 r13 v8 v9 h1 r14 v10 v11 r15 v12 v13 r16 v14 w15 r17 v16 v17 r18 r19 r20 r21 r22 r23 v18 r24 r25 r26 v19 h1 g0 f20)) [0, 1] (by decide) rfl
          have hKc := hK.sub (tys' := [(g0, .int)]) [0] rfl
          have hFc := va_free (wc := (wd_5013416a h0 v0 r0 v1 v2 v3 v4 r1 r2 r3 r4 r5 r6 r7 v5 v6 r8 r9 r10 r11 v7 r12 r13 v8 v9 h1 r14 v10 v11 r15 v12 v13 r16 v14 w15 r17 v16 v17 r18 r19 r20 r21 r22 r23 v18 r24 r25 r26 v19 h1 g0 f20)) hD hS hA [0, 1] rfl
          refine va_calli (va_runV (As := [.int x11, .int 3]) (rest := [.int x12]) ⟨hx, hb, hml, hown, hts⟩ (k_X12_of_4 l dC dI h0 h1 v0 r0 v1 v2 v3 v4 r1 r2 r3 r4 r5 r6 r7 v5 v6 r8 r9 r10 r11 v7 r12 r13 v8 v9 r14 v10 v11 r15 v12 v13 r16 v14 w15 r17 v16 v17 r18 r19 r20 r21 r22 r23 v18 r24 r25 r26 v19 g0 f20 x11 ⟨i_v1a, i_v1b⟩ ⟨i_v5a, i_v5b⟩ ⟨i_v6a, i_v6b⟩ ⟨i_v7a, i_v7b⟩ ⟨i_v8a, i_v8b⟩ ⟨i_v9a, i_v9b⟩ ⟨i_v10a, i_v10b⟩ ⟨i_v14a, i_v14b⟩ ⟨i_v18a, i_v18b⟩ ⟨i_v19a, i_v19b⟩ ⟨qa_x11, by first | omega | decide⟩ ia_f20.1 H.size) (cwV 2 hts g_X12_loadOf_1 rfl rfl rfl (by decide +kernel) ⟨Nat.le_of_ble_eq_true rfl, Nat.le_of_ble_eq_true rfl⟩) (pv_PV12 hPc hKc hDc (q0 := 0) rfl) rfl rfl hl.1 rfl (lv_room (Nat.le_of_ble_eq_true rfl)) dX12_loadOf_22 ⟨Nat.le_of_ble_eq_true rfl, Nat.le_of_ble_eq_true rfl⟩) hS (fun q _ h => hFc q h) hFc (fun ra21 u t H1 locs ht hvm hwra21 hB hz1 hk1 hS => ?_)
          try rw [hwra21] at hB
          obtain ⟨pt0_ra21, hP1, hK1, hD1⟩ := hB
          rw [ht] at hP1
          obtain ⟨hP2, hD2⟩ := va_join (wr := []) (w1 := (wd_5013416a h0 v0 r0 v1 v2 v3 v4 r1 r2 r3 r4 r5 r6 r7 v5 v6 r8 r9 r10 r11 v7 r12 r13 v8 v9 h1 r14 v10 v11 r15 v12 v13 r16 v14 w15 r17 v16 v17 r18 r19 r20 r21 r22 r23 v18 r24 r25 r26 v19 h1 g0 f20)) hP hD [0, 1] [] rfl rfl (by decide) (by decide) hk1 hFc hP1 hD1
          clear hP hD hPc hDc hKc hFc hP1 hK1 hD1 hk1 hz1
          generalize H1 = H at hP2 hS ⊢
          have hP : va_P (dC, dI) vwCl (wd_5013416a h0 v0 r0 v1 v2 v3 v4 r1 r2 r3 r4 r5 r6 r7 v5 v6 r8 r9 r10 r11 v7 r12 r13 v8 v9 h1 r14 v10 v11 r15 v12 v13 r16 v14 w15 r17 v16 v17 r18 r19 r20 r21 r22 r23 v18 r24 r25 r26 v19 h1 g0 f20) H := hP2
          have hD : va_D A (wd_5013416a h0 v0 r0 v1 v2 v3 v4 r1 r2 r3 r4 r5 r6 r7 v5 v6 r8 r9 r10 r11 v7 r12 r13 v8 v9 h1 r14 v10 v11 r15 v12 v13 r16 v14 w15 r17 v16 v17 r18 r19 r20 r21 r22 r23 v18 r24 r25 r26 v19 h1 g0 f20) := hD2
          clear hP2 hD2
          refine lv_iload_n hx hb dX12_loadOf_25 rfl (lv_at hl 3 rfl) ?_
          refine lv_icmp_ne (tgt := 38) hx hb dX12_loadOf_26 (by decide) (fun c22 => ?_) (fun c22 => ?_)
          · skip
            have fc22 : ¬ (ra21.toInt = v21.toInt) := fun h9 => c22 (Int32.toInt_inj.mp h9)
            have r1c22 := Int32.toInt_lt ra21
            have r2c22 := Int32.toInt_lt v21
            have r3c22 := Int32.le_toInt ra21
            have r4c22 := Int32.le_toInt v21
            refine lv_iconst (v := 0) hx hb dX12_loadOf_38 (by decide) ?_
            refine lv_iadd hx hb dX12_loadOf_39 ?_
            refine lv_topi (fun t23 et23 => ?_)
            have r5t23x12 := Int32.le_toInt x12; have r6t23x12 := Int32.toInt_lt x12
            have gt23 : t23.toInt = x12.toInt + 0 := pv_add (a := x12.toInt) (b := 0) et23 rfl (by decide) (by omega) (by omega)
            refine lv_istore_n (lv' := [(2, .int t23), (3, .int x11), (0, .ref h0), (1, .int v21)]) hx hb dX12_loadOf_40 rfl hl (by decide) rfl (fun ls hl => ?_)
            obtain ⟨t24, et24⟩ : ∃ y : Int32, y = x11 + 1 := ⟨_, rfl⟩
            have gt24 : t24.toInt = x11.toInt + (1) := pv_add (a := x11.toInt) (b := (1)) et24 rfl (by decide) (by omega) (by omega)
            refine lv_iinc (v := t24) (lv' := [(3, .int t24), (2, .int t23), (0, .ref h0), (1, .int v21)]) hx hb dX12_loadOf_41 hl (k := 1) rfl (by rw [et24]; rfl) (by decide) rfl (fun ls hl => ?_)
            refine lv_goto (tgt := 4) hx hb dX12_loadOf_44 (by decide) ?_
            exact ih_hL15 t24 t23 H locs ls (by first | omega | decide) (by first | omega | decide) (by first | exact Or.inl (by decide) | (apply pm_or0 <;> first | assumption | omega) | (apply Or.inr; apply pm_on.mk <;> first | assumption | omega)) (by first | omega | (simp only [Int.toNat] at *; omega)) hP hD hS (lv_sub hl [0, 1, 2, 3] rfl)
          · skip
            have fc22 : ra21.toInt = v21.toInt := congrArg Int32.toInt c22
            have r1c22 := Int32.toInt_lt ra21
            have r2c22 := Int32.toInt_lt v21
            have r3c22 := Int32.le_toInt ra21
            have r4c22 := Int32.le_toInt v21
            refine lv_aload_n hx hb dX12_loadOf_29 rfl (lv_at hl 2 rfl) ?_
            refine lv_iload_n hx hb dX12_loadOf_30 rfl (lv_at hl 0 rfl) ?_
            refine lv_iconst (v := 0) hx hb dX12_loadOf_31 (by decide) ?_
            have hPc := hP.sub (ws' := (wd_5013416a h0 v0 r0 v1 v2 v3 v4 r1 r2 r3 r4 r5 r6 r7 v5 v6 r8 r9 r10 r11 v7 r12 r13 v8 v9 h1 r14 v10 v11 r15 v12 v13 r16 v14 w15 r17 v16 v17 r18 r19 r20 r21 r22 r23 v18 r24 r25 r26 v19 h1 g0 f20)) [0, 1] rfl
            have hDc := hD.sub (ws' := (wd_5013416a h0 v0 r0 v1 v2 v3 v4 r1 r2 r3 r4 r5 r6 r7 v5 v6 r8 r9 r10 r11 v7 r12 r13 v8 v9 h1 r14 v10 v11 r15 v12 v13 r16 v14 w15 r17 v16 v17 r18 r19 r20 r21 r22 r23 v18 r24 r25 r26 v19 h1 g0 f20)) [0, 1] (by decide) rfl
            have hKc := hK.sub (tys' := [(g0, .int)]) [0] rfl
            have hFc := va_free (wc := (wd_5013416a h0 v0 r0 v1 v2 v3 v4 r1 r2 r3 r4 r5 r6 r7 v5 v6 r8 r9 r10 r11 v7 r12 r13 v8 v9 h1 r14 v10 v11 r15 v12 v13 r16 v14 w15 r17 v16 v17 r18 r19 r20 r21 r22 r23 v18 r24 r25 r26 v19 h1 g0 f20)) hD hS hA [0, 1] rfl
            refine va_calli (va_runV (As := [.int x11, .int 0]) (rest := [.int x12]) ⟨hx, hb, hml, hown, hts⟩ (k_X12_of_3 l dC dI h0 h1 v0 r0 v1 v2 v3 v4 r1 r2 r3 r4 r5 r6 r7 v5 v6 r8 r9 r10 r11 v7 r12 r13 v8 v9 r14 v10 v11 r15 v12 v13 r16 v14 w15 r17 v16 v17 r18 r19 r20 r21 r22 r23 v18 r24 r25 r26 v19 g0 f20 x11 ⟨i_v1a, i_v1b⟩ ⟨i_v5a, i_v5b⟩ ⟨i_v6a, i_v6b⟩ ⟨i_v7a, i_v7b⟩ ⟨i_v8a, i_v8b⟩ ⟨i_v9a, i_v9b⟩ ⟨i_v10a, i_v10b⟩ ⟨i_v14a, i_v14b⟩ ⟨i_v18a, i_v18b⟩ ⟨i_v19a, i_v19b⟩ ⟨qa_x11, by first | omega | decide⟩ ia_f20.1 H.size) (cwV 2 hts g_X12_loadOf_2 rfl rfl rfl (by decide +kernel) ⟨Nat.le_of_ble_eq_true rfl, Nat.le_of_ble_eq_true rfl⟩) (pv_PV12 hPc hKc hDc (q0 := 0) rfl) rfl rfl hl.1 rfl (lv_room (Nat.le_of_ble_eq_true rfl)) dX12_loadOf_32 ⟨Nat.le_of_ble_eq_true rfl, Nat.le_of_ble_eq_true rfl⟩) hS (fun q _ h => hFc q h) hFc (fun ra25 u t H1 locs ht hvm hwra25 hB hz1 hk1 hS => ?_)
            try rw [hwra25] at hB
            obtain ⟨pt0_ra25, pt1_ra25, pt2_ra25, hP1, hK1, hD1⟩ := hB
            rw [ht] at hP1
            obtain ⟨hP2, hD2⟩ := va_join (wr := []) (w1 := (wd_5013416a h0 v0 r0 v1 v2 v3 v4 r1 r2 r3 r4 r5 r6 r7 v5 v6 r8 r9 r10 r11 v7 r12 r13 v8 v9 h1 r14 v10 v11 r15 v12 v13 r16 v14 w15 r17 v16 v17 r18 r19 r20 r21 r22 r23 v18 r24 r25 r26 v19 h1 g0 f20)) hP hD [0, 1] [] rfl rfl (by decide) (by decide) hk1 hFc hP1 hD1
            clear hP hD hPc hDc hKc hFc hP1 hK1 hD1 hk1 hz1
            generalize H1 = H at hP2 hS ⊢
            have hP : va_P (dC, dI) vwCl (wd_5013416a h0 v0 r0 v1 v2 v3 v4 r1 r2 r3 r4 r5 r6 r7 v5 v6 r8 r9 r10 r11 v7 r12 r13 v8 v9 h1 r14 v10 v11 r15 v12 v13 r16 v14 w15 r17 v16 v17 r18 r19 r20 r21 r22 r23 v18 r24 r25 r26 v19 h1 g0 f20) H := hP2
            have hD : va_D A (wd_5013416a h0 v0 r0 v1 v2 v3 v4 r1 r2 r3 r4 r5 r6 r7 v5 v6 r8 r9 r10 r11 v7 r12 r13 v8 v9 h1 r14 v10 v11 r15 v12 v13 r16 v14 w15 r17 v16 v17 r18 r19 r20 r21 r22 r23 v18 r24 r25 r26 v19 h1 g0 f20) := hD2
            clear hP2 hD2
            refine lv_goto (tgt := 39) hx hb dX12_loadOf_35 (by decide) ?_
            refine lv_iadd hx hb dX12_loadOf_39 ?_
            refine lv_topi (fun t26 et26 => ?_)
            refine lv_istore_n (lv' := [(2, .int t26), (3, .int x11), (0, .ref h0), (1, .int v21)]) hx hb dX12_loadOf_40 rfl hl (by decide) rfl (fun ls hl => ?_)
            obtain ⟨t27, et27⟩ : ∃ y : Int32, y = x11 + 1 := ⟨_, rfl⟩
            have gt27 : t27.toInt = x11.toInt + (1) := pv_add (a := x11.toInt) (b := (1)) et27 rfl (by decide) (by omega) (by omega)
            refine lv_iinc (v := t27) (lv' := [(3, .int t27), (2, .int t26), (0, .ref h0), (1, .int v21)]) hx hb dX12_loadOf_41 hl (k := 1) rfl (by rw [et27]; rfl) (by decide) rfl (fun ls hl => ?_)
            refine lv_goto (tgt := 4) hx hb dX12_loadOf_44 (by decide) ?_
            exact ih_hL15 t27 t26 H locs ls (by first | omega | decide) (by first | omega | decide) (by first | exact Or.inl (by decide) | (apply pm_or0 <;> first | assumption | omega) | (apply Or.inr; apply pm_on.mk <;> first | assumption | omega)) (by first | omega | (simp only [Int.toNat] at *; omega)) hP hD hS (lv_sub hl [0, 1, 2, 3] rfl)
  exact hL15 _ 0 0 H locs ls (by decide) (by decide) (by first | exact Or.inl (by decide) | (apply pm_or0 <;> first | assumption | omega) | (apply Or.inr; apply pm_on.mk <;> first | assumption | omega)) (Nat.lt_succ_self _) hP hD hS (lv_sub hl [0, 1, 2, 3] rfl)
def q_X12_sizeAll : List Cond := .code yX12_sizeAll cX12_sizeAll 3 (some .int) :: (([.code yX12_isThere cX12_isThere 2 (some .boolean), .code yX12_in cX12_in 3 (some .boolean), .initialized RX12, .static yX12_in, .methodLink RX12 217 yX12_in, .code yX12_of cX12_of 3 (some .int), .fieldLink RX12 52 "LeftArgumentsModel" "now" "[I", .instanceMethod yX12_of, .selects RX12 yX12_of yX12_of, .methodLink RX12 287 yX12_of, .instanceMethod yX12_isThere, .selects RX12 yX12_isThere yX12_isThere, .methodLink RX12 290 yX12_isThere] : List Cond) ++ wsX120)
set_option maxRecDepth 20000 in
theorem g_X12_sizeAll_0 : GoodIn q_X12_sizeAll (wsV RX12 290 RX12 yX12_isThere q_X12_isThere) := goodIn_app (goodIn_r _ [13, 11, 12, 3] rfl (by decide +kernel)) (goodIn_ca (goodIn_r (.code yX12_isThere cX12_isThere 2 (some .boolean) :: [.code yX12_in cX12_in 3 (some .boolean), .initialized RX12, .static yX12_in, .methodLink RX12 217 yX12_in, .code yX12_of cX12_of 3 (some .int), .fieldLink RX12 52 "LeftArgumentsModel" "now" "[I", .instanceMethod yX12_of, .selects RX12 yX12_of yX12_of, .methodLink RX12 287 yX12_of]) [1, 2, 3, 4, 5, 6, 7, 8, 9, 10] rfl (by decide +kernel)) (goodIn_sub (fun _ h => List.mem_cons_of_mem _ (List.mem_append_right _ h)) gwX12))
set_option maxRecDepth 20000 in
theorem g_X12_sizeAll_1 : GoodIn q_X12_sizeAll (wsV RX12 287 RX12 yX12_of q_X12_of_3) := goodIn_app (goodIn_r _ [10, 8, 9, 3] rfl (by decide +kernel)) (goodIn_ca (goodIn_r (.code yX12_of cX12_of 3 (some .int) :: [.fieldLink RX12 52 "LeftArgumentsModel" "now" "[I"]) [6, 7] rfl (by decide +kernel)) (goodIn_sub (fun _ h => List.mem_cons_of_mem _ (List.mem_append_right _ h)) gwX12))
set_option maxHeartbeats 4000000 in
set_option maxRecDepth 100000 in
theorem k_X12_sizeAll (l : Launch) (dC : Nat → ClassId) (dI : Nat → Nat → Nat) (h0 : Nat) (h1 : Nat) (v0 : Int32) (r0 : Nat) (v1 : Int32) (v2 : Int32) (v3 : Int32) (v4 : Int32) (r1 : Nat) (r2 : Nat) (r3 : Nat) (r4 : Nat) (r5 : Nat) (r6 : Nat) (r7 : Nat) (v5 : Int32) (v6 : Int32) (r8 : Nat) (r9 : Nat) (r10 : Nat) (r11 : Nat) (v7 : Int32) (r12 : Nat) (r13 : Nat) (v8 : Int32) (v9 : Int32) (r14 : Nat) (v10 : Int32) (v11 : Int32) (r15 : Nat) (v12 : Int32) (v13 : Int32) (r16 : Nat) (v14 : Int32) (w15 : Int64) (r17 : Nat) (v16 : Int32) (v17 : Int32) (r18 : Nat) (r19 : Nat) (r20 : Nat) (r21 : Nat) (r22 : Nat) (r23 : Nat) (v18 : Int32) (r24 : Nat) (r25 : Nat) (r26 : Nat) (v19 : Int32) (g0 : ClassId) (f20 : Nat → Int32) (i_v1 : 0 ≤ v1.toInt ∧ v1.toInt ≤ 240) (i_v5 : 0 ≤ v5.toInt ∧ v5.toInt ≤ 4) (i_v6 : 0 ≤ v6.toInt ∧ v6.toInt ≤ 4) (i_v7 : 0 ≤ v7.toInt ∧ v7.toInt ≤ 8) (i_v8 : 0 ≤ v8.toInt ∧ v8.toInt ≤ 8) (i_v9 : 0 ≤ v9.toInt ∧ v9.toInt ≤ 1) (i_v10 : -1 ≤ v10.toInt ∧ v10.toInt ≤ 3) (i_v14 : 0 ≤ v14.toInt ∧ v14.toInt ≤ 40) (i_v18 : 0 ≤ v18.toInt ∧ v18.toInt ≤ 10) (i_v19 : 0 ≤ v19.toInt ∧ v19.toInt ≤ 1) (ia_f20 : (pm_NW f20)) (sz : Nat) : Met l yX12_sizeAll q_X12_sizeAll ({ frames := 2, cells := 0, slots := 0, locals := 43 }) (va_Pc [.ref h0] (fun U => U.heap.size = sz ∧ va_P (dC, dI) vwCl (wd_5013416a h0 v0 r0 v1 v2 v3 v4 r1 r2 r3 r4 r5 r6 r7 v5 v6 r8 r9 r10 r11 v7 r12 r13 v8 v9 h1 r14 v10 v11 r15 v12 v13 r16 v14 w15 r17 v16 v17 r18 r19 r20 r21 r22 r23 v18 r24 r25 r26 v19 h1 g0 f20) U.heap ∧ va_K (dC, dI) vwCl [(g0, .int)] U ∧ va_D (fun _ => True) (wd_5013416a h0 v0 r0 v1 v2 v3 v4 r1 r2 r3 r4 r5 r6 r7 v5 v6 r8 r9 r10 r11 v7 r12 r13 v8 v9 h1 r14 v10 v11 r15 v12 v13 r16 v14 w15 r17 v16 v17 r18 r19 r20 r21 r22 r23 v18 r24 r25 r26 v19 h1 g0 f20))) (va_Qi (fun (r : Int32) (r9 : Int32) => r9 = r) (fun (r : Int32) (t : State) => ((0 ≤ r.toInt) ∧ (r.toInt ≤ 792) ∧ (pm_SA f20 r.toInt 8) ∧ va_P (dC, dI) vwCl (wd_5013416a h0 v0 r0 v1 v2 v3 v4 r1 r2 r3 r4 r5 r6 r7 v5 v6 r8 r9 r10 r11 v7 r12 r13 v8 v9 h1 r14 v10 v11 r15 v12 v13 r16 v14 w15 r17 v16 v17 r18 r19 r20 r21 r22 r23 v18 r24 r25 r26 v19 h1 g0 f20) t.heap ∧ va_K (dC, dI) vwCl [] t ∧ va_D (va_A (wd_5013416a h0 v0 r0 v1 v2 v3 v4 r1 r2 r3 r4 r5 r6 r7 v5 v6 r8 r9 r10 r11 v7 r12 r13 v8 v9 h1 r14 v10 v11 r15 v12 v13 r16 v14 w15 r17 v16 v17 r18 r19 r20 r21 r22 r23 v18 r24 r25 r26 v19 h1 g0 f20) sz) (wd_5013416a h0 v0 r0 v1 v2 v3 v4 r1 r2 r3 r4 r5 r6 r7 v5 v6 r8 r9 r10 r11 v7 r12 r13 v8 v9 h1 r14 v10 v11 r15 v12 v13 r16 v14 w15 r17 v16 v17 r18 r19 r20 r21 r22 r23 v18 r24 r25 r26 v19 h1 g0 f20))) (va_A (wd_5013416a h0 v0 r0 v1 v2 v3 v4 r1 r2 r3 r4 r5 r6 r7 v5 v6 r8 r9 r10 r11 v7 r12 r13 v8 v9 h1 r14 v10 v11 r15 v12 v13 r16 v14 w15 r17 v16 v17 r18 r19 r20 r21 r22 r23 v18 r24 r25 r26 v19 h1 g0 f20) sz)) 0 0 (va_A (wd_5013416a h0 v0 r0 v1 v2 v3 v4 r1 r2 r3 r4 r5 r6 r7 v5 v6 r8 r9 r10 r11 v7 r12 r13 v8 v9 h1 r14 v10 v11 r15 v12 v13 r16 v14 w15 r17 v16 v17 r18 r19 r20 r21 r22 r23 v18 r24 r25 r26 v19 h1 g0 f20) sz) := by
  refine Met.ofW (cc := cX12_sizeAll) (maxL := 3) (ret := (some .int)) (by decide) rfl ?_
  intro p e s m args below meth c s₁ B hml hv
  obtain ⟨i_v1a, i_v1b⟩ := i_v1
  obtain ⟨i_v5a, i_v5b⟩ := i_v5
  obtain ⟨i_v6a, i_v6b⟩ := i_v6
  obtain ⟨i_v7a, i_v7b⟩ := i_v7
  obtain ⟨i_v8a, i_v8b⟩ := i_v8
  obtain ⟨i_v9a, i_v9b⟩ := i_v9
  obtain ⟨i_v10a, i_v10b⟩ := i_v10
  obtain ⟨i_v14a, i_v14b⟩ := i_v14
  obtain ⟨i_v18a, i_v18b⟩ := i_v18
  obtain ⟨i_v19a, i_v19b⟩ := i_v19
  obtain ⟨rfl, hsz, hP, hK, hD0⟩ := hv
  have hx := B.exec
  have hb := B.bytes
  have hr := B.returns
  have hts := atoms_spec (ws := q_X12_sizeAll) B.pre
  have hown : s.vm.findClass RX12 = some m.cls := findClass_of_methodNamed B.named
  have hlocks := B.notSynchronized
  subst hsz
  have hD := hD0.self (sz := s.heap.size)
  generalize hAe : va_A (wd_5013416a h0 v0 r0 v1 v2 v3 v4 r1 r2 r3 r4 r5 r6 r7 v5 v6 r8 r9 r10 r11 v7 r12 r13 v8 v9 h1 r14 v10 v11 r15 v12 v13 r16 v14 w15 r17 v16 v17 r18 r19 r20 r21 r22 r23 v18 r24 r25 r26 v19 h1 g0 f20) s.heap.size = A at hD ⊢
  have hA : ∀ q : Nat, s.heap.size ≤ q → A q := fun q h => by rw [← hAe]; exact Or.inr h
  have hS : va_S A s.heap s.heap [] := va_S.rf
  generalize hQ : (MQ below _ _ s 0 0 A) = Q
  have hl := lv_entry ([.ref h0]) (n := 3) (Nat.le_of_ble_eq_true rfl)
  rw [lg_entry_eq]
  generalize (lg_sl ([.ref h0]) ++ List.replicate (3 - (lg_sl ([.ref h0])).length) Slot.unset).toArray = ls at hl ⊢
  have hl : lv_has ls 3 [(0, .ref h0)] := hl
  obtain ⟨H, hH⟩ : ∃ H : Heap, H = s.heap := ⟨_, rfl⟩
  obtain ⟨locs, hlocs⟩ : ∃ y : List Loc, y = [] := ⟨_, rfl⟩
  have hS : va_S A s.heap H locs := by rw [hH, hlocs]; exact va_S.rf
  have hP : va_P (dC, dI) vwCl (wd_5013416a h0 v0 r0 v1 v2 v3 v4 r1 r2 r3 r4 r5 r6 r7 v5 v6 r8 r9 r10 r11 v7 r12 r13 v8 v9 h1 r14 v10 v11 r15 v12 v13 r16 v14 w15 r17 v16 v17 r18 r19 r20 r21 r22 r23 v18 r24 r25 r26 v19 h1 g0 f20) H := by rw [hH]; exact hP
  rw [← hH, ← hlocs]
  refine lv_iconst (v := 0) hx hb dX12_sizeAll_0 (by decide) ?_
  refine lv_istore_n (lv' := [(1, .int 0), (0, .ref h0)]) hx hb dX12_sizeAll_1 rfl hl (by decide) rfl (fun ls hl => ?_)
  refine lv_iconst (v := 0) hx hb dX12_sizeAll_2 (by decide) ?_
  refine lv_istore_n (lv' := [(2, .int 0), (1, .int 0), (0, .ref h0)]) hx hb dX12_sizeAll_3 rfl hl (by decide) rfl (fun ls hl => ?_)
  have hL81 : ∀ (n9 : Nat), ∀ (x79 : Int32) (x80 : Int32) (H : Heap) (locs : List Loc) (ls : Array Slot), 0 ≤ x79.toInt → x79.toInt ≤ 8 → 0 ≤ x80.toInt → x80.toInt ≤ 792 → (pm_SA f20 x80.toInt x79.toInt.toNat) → (8 - x79.toInt).toNat < n9 → va_P (dC, dI) vwCl (wd_5013416a h0 v0 r0 v1 v2 v3 v4 r1 r2 r3 r4 r5 r6 r7 v5 v6 r8 r9 r10 r11 v7 r12 r13 v8 v9 h1 r14 v10 v11 r15 v12 v13 r16 v14 w15 r17 v16 v17 r18 r19 r20 r21 r22 r23 v18 r24 r25 r26 v19 h1 g0 f20) H → va_D A (wd_5013416a h0 v0 r0 v1 v2 v3 v4 r1 r2 r3 r4 r5 r6 r7 v5 v6 r8 r9 r10 r11 v7 r12 r13 v8 v9 h1 r14 v10 v11 r15 v12 v13 r16 v14 w15 r17 v16 v17 r18 r19 r20 r21 r22 r23 v18 r24 r25 r26 v19 h1 g0 f20) → va_S A s.heap H locs → lv_has ls 3 [(2, .int x79), (1, .int x80), (0, .ref h0)] → W p l e ({ frames := 2, cells := 0, slots := 0, locals := 43 }) s m ([.ref h0] : List Value).toArray below meth c H locs 0 0 Q (F0 m 4 ls []) := by
    intro n9
    induction n9 with
    | zero => intro x79 x80 H locs ls qa_x79 qb_x79 qa_x80 qb_x80 gh0_hL81 hm9 hP hD hS hl; exact absurd hm9 (Nat.not_lt_zero _)
    | succ n9 ih_hL81 =>
      intro x79 x80 H locs ls qa_x79 qb_x79 qa_x80 qb_x80 gh0_hL81 hm9 hP hD hS hl
      have hs9 := gh0_hL81.1; have hs8 := gh0_hL81.2.1
      refine lv_iload_n hx hb dX12_sizeAll_4 rfl (lv_at hl 0 rfl) ?_
      refine lv_bipush (v := 8) hx hb dX12_sizeAll_5 (by decide) ?_
      refine lv_icmp_ge (tgt := 37) hx hb dX12_sizeAll_7 (by decide) (fun c82 => ?_) (fun c82 => ?_)
      · skip
        have fc82 : 8 ≤ x79.toInt := Int32.le_iff_toInt_le.mp c82
        refine lv_iload_n hx hb dX12_sizeAll_37 rfl (lv_at hl 1 rfl) ?_
        subst hQ
        have hP9 := hP.sub (ws' := (wd_5013416a h0 v0 r0 v1 v2 v3 v4 r1 r2 r3 r4 r5 r6 r7 v5 v6 r8 r9 r10 r11 v7 r12 r13 v8 v9 h1 r14 v10 v11 r15 v12 v13 r16 v14 w15 r17 v16 v17 r18 r19 r20 r21 r22 r23 v18 r24 r25 r26 v19 h1 g0 f20)) [0, 1] rfl
        have hD9 := hD.sub (ws' := (wd_5013416a h0 v0 r0 v1 v2 v3 v4 r1 r2 r3 r4 r5 r6 r7 v5 v6 r8 r9 r10 r11 v7 r12 r13 v8 v9 h1 r14 v10 v11 r15 v12 v13 r16 v14 w15 r17 v16 v17 r18 r19 r20 r21 r22 r23 v18 r24 r25 r26 v19 h1 g0 f20)) [0, 1] (by decide) rfl
        have hK9 := hK.sub (tys' := []) [] rfl
        exact W.iret (v := x80) hx hb hr (fun t ht hW => ⟨⟨x80, x80, rfl, rfl, ⟨by first | omega | decide, by first | omega | decide, by rw [show (8 : Nat) = x79.toInt.toNat by omega]; assumption, by rw [ht]; exact hP9, va_K.moved hW.alike hK9, hD9⟩⟩, hS.F ht⟩) hS.2.2 dX12_sizeAll_38
      · skip
        have fc82 : ¬ (8 ≤ x79.toInt) := fun h9 => c82 (Int32.le_iff_toInt_le.mpr h9)
        refine lv_iload_n hx hb dX12_sizeAll_10 rfl (lv_at hl 1 rfl) ?_
        refine lv_aload_n hx hb dX12_sizeAll_11 rfl (lv_at hl 2 rfl) ?_
        refine lv_iload_n hx hb dX12_sizeAll_12 rfl (lv_at hl 0 rfl) ?_
        have hPc := hP.sub (ws' := (wd_5013416a h0 v0 r0 v1 v2 v3 v4 r1 r2 r3 r4 r5 r6 r7 v5 v6 r8 r9 r10 r11 v7 r12 r13 v8 v9 h1 r14 v10 v11 r15 v12 v13 r16 v14 w15 r17 v16 v17 r18 r19 r20 r21 r22 r23 v18 r24 r25 r26 v19 h1 g0 f20)) [0, 1] rfl
        have hDc := hD.sub (ws' := (wd_5013416a h0 v0 r0 v1 v2 v3 v4 r1 r2 r3 r4 r5 r6 r7 v5 v6 r8 r9 r10 r11 v7 r12 r13 v8 v9 h1 r14 v10 v11 r15 v12 v13 r16 v14 w15 r17 v16 v17 r18 r19 r20 r21 r22 r23 v18 r24 r25 r26 v19 h1 g0 f20)) [0, 1] (by decide) rfl
        have hKc := hK.sub (tys' := [(g0, .int)]) [0] rfl
        have hFc := va_free (wc := (wd_5013416a h0 v0 r0 v1 v2 v3 v4 r1 r2 r3 r4 r5 r6 r7 v5 v6 r8 r9 r10 r11 v7 r12 r13 v8 v9 h1 r14 v10 v11 r15 v12 v13 r16 v14 w15 r17 v16 v17 r18 r19 r20 r21 r22 r23 v18 r24 r25 r26 v19 h1 g0 f20)) hD hS hA [0, 1] rfl
        refine va_calli (va_runV (As := [.int x79]) (rest := [.int x80]) ⟨hx, hb, hml, hown, hts⟩ (k_X12_isThere l dC dI h0 h1 v0 r0 v1 v2 v3 v4 r1 r2 r3 r4 r5 r6 r7 v5 v6 r8 r9 r10 r11 v7 r12 r13 v8 v9 r14 v10 v11 r15 v12 v13 r16 v14 w15 r17 v16 v17 r18 r19 r20 r21 r22 r23 v18 r24 r25 r26 v19 g0 f20 x79 ⟨i_v1a, i_v1b⟩ ⟨i_v5a, i_v5b⟩ ⟨i_v6a, i_v6b⟩ ⟨i_v7a, i_v7b⟩ ⟨i_v8a, i_v8b⟩ ⟨i_v9a, i_v9b⟩ ⟨i_v10a, i_v10b⟩ ⟨i_v14a, i_v14b⟩ ⟨i_v18a, i_v18b⟩ ⟨i_v19a, i_v19b⟩ ia_f20.1 H.size) (cwV 1 hts g_X12_sizeAll_0 rfl rfl rfl (by decide +kernel) ⟨Nat.le_of_ble_eq_true rfl, Nat.le_of_ble_eq_true rfl⟩) (pv_PV12 hPc hKc hDc (q0 := 0) rfl) rfl rfl hl.1 rfl (lv_room (Nat.le_of_ble_eq_true rfl)) dX12_sizeAll_13 ⟨Nat.le_of_ble_eq_true rfl, Nat.le_of_ble_eq_true rfl⟩) hS (fun q _ h => hFc q h) hFc (fun ra83 u t H1 locs ht hvm hwra83 hB hz1 hk1 hS => ?_)
        try rw [hwra83] at hB
        obtain ⟨pt0_ra83, pt1_ra83, pt2_ra83, pt3_ra83, pt4_ra83, pt5_ra83, hP1, hK1, hD1⟩ := hB
        rw [ht] at hP1
        obtain ⟨hP2, hD2⟩ := va_join (wr := []) (w1 := (wd_5013416a h0 v0 r0 v1 v2 v3 v4 r1 r2 r3 r4 r5 r6 r7 v5 v6 r8 r9 r10 r11 v7 r12 r13 v8 v9 h1 r14 v10 v11 r15 v12 v13 r16 v14 w15 r17 v16 v17 r18 r19 r20 r21 r22 r23 v18 r24 r25 r26 v19 h1 g0 f20)) hP hD [0, 1] [] rfl rfl (by decide) (by decide) hk1 hFc hP1 hD1
        clear hP hD hPc hDc hKc hFc hP1 hK1 hD1 hk1 hz1
        generalize H1 = H at hP2 hS ⊢
        have hP : va_P (dC, dI) vwCl (wd_5013416a h0 v0 r0 v1 v2 v3 v4 r1 r2 r3 r4 r5 r6 r7 v5 v6 r8 r9 r10 r11 v7 r12 r13 v8 v9 h1 r14 v10 v11 r15 v12 v13 r16 v14 w15 r17 v16 v17 r18 r19 r20 r21 r22 r23 v18 r24 r25 r26 v19 h1 g0 f20) H := hP2
        have hD : va_D A (wd_5013416a h0 v0 r0 v1 v2 v3 v4 r1 r2 r3 r4 r5 r6 r7 v5 v6 r8 r9 r10 r11 v7 r12 r13 v8 v9 h1 r14 v10 v11 r15 v12 v13 r16 v14 w15 r17 v16 v17 r18 r19 r20 r21 r22 r23 v18 r24 r25 r26 v19 h1 g0 f20) := hD2
        clear hP2 hD2
        have wra83 : ra83.toInt = 0 → ¬ f20 (pm_I x79 7) = 1 := fun h9 => pt5_ra83 h9 (by omega) (by omega)
        refine lv_if_eq (tgt := 28) hx hb dX12_sizeAll_16 (by decide) (fun c84 => ?_) (fun c84 => ?_)
        · skip
          have fc84 : ra83.toInt = 0 := congrArg Int32.toInt c84
          have q0wra83 := wra83 (by omega)
          refine lv_iconst (v := 0) hx hb dX12_sizeAll_28 (by decide) ?_
          refine lv_iadd hx hb dX12_sizeAll_29 ?_
          refine lv_topi (fun t85 et85 => ?_)
          have gt85 : t85.toInt = x80.toInt + 0 := pv_add (a := x80.toInt) (b := 0) et85 rfl (by decide) (by omega) (by omega)
          refine lv_istore_n (lv' := [(1, .int t85), (2, .int x79), (0, .ref h0)]) hx hb dX12_sizeAll_30 rfl hl (by decide) rfl (fun ls hl => ?_)
          obtain ⟨t86, et86⟩ : ∃ y : Int32, y = x79 + 1 := ⟨_, rfl⟩
          have gt86 : t86.toInt = x79.toInt + (1) := pv_add (a := x79.toInt) (b := (1)) et86 rfl (by decide) (by omega) (by omega)
          refine lv_iinc (v := t86) (lv' := [(2, .int t86), (1, .int t85), (0, .ref h0)]) hx hb dX12_sizeAll_31 hl (k := 1) rfl (by rw [et86]; rfl) (by decide) rfl (fun ls hl => ?_)
          refine lv_goto (tgt := 4) hx hb dX12_sizeAll_34 (by decide) ?_
          exact ih_hL81 t86 t85 H locs ls (by first | omega | decide) (by first | omega | decide) (by first | omega | decide) (by first | omega | decide) (by first | exact pm_SA.zero (by decide) (by decide) | (apply pm_SA.no <;> first | assumption | omega) | (apply pm_SA.add <;> first | assumption | omega)) (by first | omega | (simp only [Int.toNat] at *; omega)) hP hD hS (lv_sub hl [0, 1, 2] rfl)
        · skip
          have fc84 : ¬ (ra83.toInt = 0) := fun h9 => c84 (Int32.toInt_inj.mp h9)
          have q1pt4_ra83 := pt4_ra83 (by omega)
          refine lv_aload_n hx hb dX12_sizeAll_19 rfl (lv_at hl 2 rfl) ?_
          refine lv_iload_n hx hb dX12_sizeAll_20 rfl (lv_at hl 0 rfl) ?_
          refine lv_iconst (v := 0) hx hb dX12_sizeAll_21 (by decide) ?_
          have hPc := hP.sub (ws' := (wd_5013416a h0 v0 r0 v1 v2 v3 v4 r1 r2 r3 r4 r5 r6 r7 v5 v6 r8 r9 r10 r11 v7 r12 r13 v8 v9 h1 r14 v10 v11 r15 v12 v13 r16 v14 w15 r17 v16 v17 r18 r19 r20 r21 r22 r23 v18 r24 r25 r26 v19 h1 g0 f20)) [0, 1] rfl
          have hDc := hD.sub (ws' := (wd_5013416a h0 v0 r0 v1 v2 v3 v4 r1 r2 r3 r4 r5 r6 r7 v5 v6 r8 r9 r10 r11 v7 r12 r13 v8 v9 h1 r14 v10 v11 r15 v12 v13 r16 v14 w15 r17 v16 v17 r18 r19 r20 r21 r22 r23 v18 r24 r25 r26 v19 h1 g0 f20)) [0, 1] (by decide) rfl
          have hKc := hK.sub (tys' := [(g0, .int)]) [0] rfl
          have hFc := va_free (wc := (wd_5013416a h0 v0 r0 v1 v2 v3 v4 r1 r2 r3 r4 r5 r6 r7 v5 v6 r8 r9 r10 r11 v7 r12 r13 v8 v9 h1 r14 v10 v11 r15 v12 v13 r16 v14 w15 r17 v16 v17 r18 r19 r20 r21 r22 r23 v18 r24 r25 r26 v19 h1 g0 f20)) hD hS hA [0, 1] rfl
          refine va_calli (va_runV (As := [.int x79, .int 0]) (rest := [.int x80]) ⟨hx, hb, hml, hown, hts⟩ (k_X12_of_3 l dC dI h0 h1 v0 r0 v1 v2 v3 v4 r1 r2 r3 r4 r5 r6 r7 v5 v6 r8 r9 r10 r11 v7 r12 r13 v8 v9 r14 v10 v11 r15 v12 v13 r16 v14 w15 r17 v16 v17 r18 r19 r20 r21 r22 r23 v18 r24 r25 r26 v19 g0 f20 x79 ⟨i_v1a, i_v1b⟩ ⟨i_v5a, i_v5b⟩ ⟨i_v6a, i_v6b⟩ ⟨i_v7a, i_v7b⟩ ⟨i_v8a, i_v8b⟩ ⟨i_v9a, i_v9b⟩ ⟨i_v10a, i_v10b⟩ ⟨i_v14a, i_v14b⟩ ⟨i_v18a, i_v18b⟩ ⟨i_v19a, i_v19b⟩ ⟨qa_x79, by first | omega | decide⟩ ia_f20.1 H.size) (cwV 2 hts g_X12_sizeAll_1 rfl rfl rfl (by decide +kernel) ⟨Nat.le_of_ble_eq_true rfl, Nat.le_of_ble_eq_true rfl⟩) (pv_PV12 hPc hKc hDc (q0 := 0) rfl) rfl rfl hl.1 rfl (lv_room (Nat.le_of_ble_eq_true rfl)) dX12_sizeAll_22 ⟨Nat.le_of_ble_eq_true rfl, Nat.le_of_ble_eq_true rfl⟩) hS (fun q _ h => hFc q h) hFc (fun ra87 u t H1 locs ht hvm hwra87 hB hz1 hk1 hS => ?_)
          try rw [hwra87] at hB
          obtain ⟨pt0_ra87, pt1_ra87, pt2_ra87, hP1, hK1, hD1⟩ := hB
          rw [ht] at hP1
          obtain ⟨hP2, hD2⟩ := va_join (wr := []) (w1 := (wd_5013416a h0 v0 r0 v1 v2 v3 v4 r1 r2 r3 r4 r5 r6 r7 v5 v6 r8 r9 r10 r11 v7 r12 r13 v8 v9 h1 r14 v10 v11 r15 v12 v13 r16 v14 w15 r17 v16 v17 r18 r19 r20 r21 r22 r23 v18 r24 r25 r26 v19 h1 g0 f20)) hP hD [0, 1] [] rfl rfl (by decide) (by decide) hk1 hFc hP1 hD1
          clear hP hD hPc hDc hKc hFc hP1 hK1 hD1 hk1 hz1
          generalize H1 = H at hP2 hS ⊢
          have hP : va_P (dC, dI) vwCl (wd_5013416a h0 v0 r0 v1 v2 v3 v4 r1 r2 r3 r4 r5 r6 r7 v5 v6 r8 r9 r10 r11 v7 r12 r13 v8 v9 h1 r14 v10 v11 r15 v12 v13 r16 v14 w15 r17 v16 v17 r18 r19 r20 r21 r22 r23 v18 r24 r25 r26 v19 h1 g0 f20) H := hP2
          have hD : va_D A (wd_5013416a h0 v0 r0 v1 v2 v3 v4 r1 r2 r3 r4 r5 r6 r7 v5 v6 r8 r9 r10 r11 v7 r12 r13 v8 v9 h1 r14 v10 v11 r15 v12 v13 r16 v14 w15 r17 v16 v17 r18 r19 r20 r21 r22 r23 v18 r24 r25 r26 v19 h1 g0 f20) := hD2
          clear hP2 hD2
          refine lv_goto (tgt := 29) hx hb dX12_sizeAll_25 (by decide) ?_
          refine lv_iadd hx hb dX12_sizeAll_29 ?_
          refine lv_topi (fun t88 et88 => ?_)
          have gt88 : t88.toInt = x80.toInt + ra87.toInt := pv_add (a := x80.toInt) (b := ra87.toInt) et88 rfl rfl (by omega) (by omega)
          refine lv_istore_n (lv' := [(1, .int t88), (2, .int x79), (0, .ref h0)]) hx hb dX12_sizeAll_30 rfl hl (by decide) rfl (fun ls hl => ?_)
          obtain ⟨t89, et89⟩ : ∃ y : Int32, y = x79 + 1 := ⟨_, rfl⟩
          have gt89 : t89.toInt = x79.toInt + (1) := pv_add (a := x79.toInt) (b := (1)) et89 rfl (by decide) (by omega) (by omega)
          refine lv_iinc (v := t89) (lv' := [(2, .int t89), (1, .int t88), (0, .ref h0)]) hx hb dX12_sizeAll_31 hl (k := 1) rfl (by rw [et89]; rfl) (by decide) rfl (fun ls hl => ?_)
          refine lv_goto (tgt := 4) hx hb dX12_sizeAll_34 (by decide) ?_
          exact ih_hL81 t89 t88 H locs ls (by first | omega | decide) (by first | omega | decide) (by first | omega | decide) (by first | omega | decide) (by first | exact pm_SA.zero (by decide) (by decide) | (apply pm_SA.no <;> first | assumption | omega) | (apply pm_SA.add <;> first | assumption | omega)) (by first | omega | (simp only [Int.toNat] at *; omega)) hP hD hS (lv_sub hl [0, 1, 2] rfl)
  exact hL81 _ 0 0 H locs ls (by decide) (by decide) (by decide) (by decide) (by first | exact pm_SA.zero (by decide) (by decide) | (apply pm_SA.no <;> first | assumption | omega) | (apply pm_SA.add <;> first | assumption | omega)) (Nat.lt_succ_self _) hP hD hS (lv_sub hl [0, 1, 2] rfl)
def q_X12_withOf : List Cond := .code yX12_withOf cX12_withOf 4 (some .int) :: (([.code yX12_isThere cX12_isThere 2 (some .boolean), .code yX12_in cX12_in 3 (some .boolean), .initialized RX12, .static yX12_in, .methodLink RX12 217 yX12_in, .code yX12_of cX12_of 3 (some .int), .fieldLink RX12 52 "LeftArgumentsModel" "now" "[I", .instanceMethod yX12_of, .selects RX12 yX12_of yX12_of, .methodLink RX12 287 yX12_of, .instanceMethod yX12_isThere, .selects RX12 yX12_isThere yX12_isThere, .methodLink RX12 290 yX12_isThere] : List Cond) ++ wsX120)
set_option maxRecDepth 20000 in
theorem g_X12_withOf_0 : GoodIn q_X12_withOf (wsV RX12 290 RX12 yX12_isThere q_X12_isThere) := goodIn_app (goodIn_r _ [13, 11, 12, 3] rfl (by decide +kernel)) (goodIn_ca (goodIn_r (.code yX12_isThere cX12_isThere 2 (some .boolean) :: [.code yX12_in cX12_in 3 (some .boolean), .initialized RX12, .static yX12_in, .methodLink RX12 217 yX12_in, .code yX12_of cX12_of 3 (some .int), .fieldLink RX12 52 "LeftArgumentsModel" "now" "[I", .instanceMethod yX12_of, .selects RX12 yX12_of yX12_of, .methodLink RX12 287 yX12_of]) [1, 2, 3, 4, 5, 6, 7, 8, 9, 10] rfl (by decide +kernel)) (goodIn_sub (fun _ h => List.mem_cons_of_mem _ (List.mem_append_right _ h)) gwX12))
set_option maxRecDepth 20000 in
theorem g_X12_withOf_1 : GoodIn q_X12_withOf (wsV RX12 287 RX12 yX12_of q_X12_of_4) := goodIn_app (goodIn_r _ [10, 8, 9, 3] rfl (by decide +kernel)) (goodIn_ca (goodIn_r (.code yX12_of cX12_of 3 (some .int) :: [.fieldLink RX12 52 "LeftArgumentsModel" "now" "[I"]) [6, 7] rfl (by decide +kernel)) (goodIn_sub (fun _ h => List.mem_cons_of_mem _ (List.mem_append_right _ h)) gwX12))
set_option maxHeartbeats 4000000 in
set_option maxRecDepth 100000 in
theorem k_X12_withOf (l : Launch) (dC : Nat → ClassId) (dI : Nat → Nat → Nat) (h0 : Nat) (h1 : Nat) (v0 : Int32) (r0 : Nat) (v1 : Int32) (v2 : Int32) (v3 : Int32) (v4 : Int32) (r1 : Nat) (r2 : Nat) (r3 : Nat) (r4 : Nat) (r5 : Nat) (r6 : Nat) (r7 : Nat) (v5 : Int32) (v6 : Int32) (r8 : Nat) (r9 : Nat) (r10 : Nat) (r11 : Nat) (v7 : Int32) (r12 : Nat) (r13 : Nat) (v8 : Int32) (v9 : Int32) (r14 : Nat) (v10 : Int32) (v11 : Int32) (r15 : Nat) (v12 : Int32) (v13 : Int32) (r16 : Nat) (v14 : Int32) (w15 : Int64) (r17 : Nat) (v16 : Int32) (v17 : Int32) (r18 : Nat) (r19 : Nat) (r20 : Nat) (r21 : Nat) (r22 : Nat) (r23 : Nat) (v18 : Int32) (r24 : Nat) (r25 : Nat) (r26 : Nat) (v19 : Int32) (g0 : ClassId) (f20 : Nat → Int32) (v21 : Int32) (i_v1 : 0 ≤ v1.toInt ∧ v1.toInt ≤ 240) (i_v5 : 0 ≤ v5.toInt ∧ v5.toInt ≤ 4) (i_v6 : 0 ≤ v6.toInt ∧ v6.toInt ≤ 4) (i_v7 : 0 ≤ v7.toInt ∧ v7.toInt ≤ 8) (i_v8 : 0 ≤ v8.toInt ∧ v8.toInt ≤ 8) (i_v9 : 0 ≤ v9.toInt ∧ v9.toInt ≤ 1) (i_v10 : -1 ≤ v10.toInt ∧ v10.toInt ≤ 3) (i_v14 : 0 ≤ v14.toInt ∧ v14.toInt ≤ 40) (i_v18 : 0 ≤ v18.toInt ∧ v18.toInt ≤ 10) (i_v19 : 0 ≤ v19.toInt ∧ v19.toInt ≤ 1) (i_v21 : 0 ≤ v21.toInt ∧ v21.toInt ≤ 7) (ia_f20 : (pm_NW0 f20)) (sz : Nat) : Met l yX12_withOf q_X12_withOf ({ frames := 2, cells := 0, slots := 0, locals := 43 }) (va_Pc [.ref h0, .int v21] (fun U => U.heap.size = sz ∧ va_P (dC, dI) vwCl (wd_5013416a h0 v0 r0 v1 v2 v3 v4 r1 r2 r3 r4 r5 r6 r7 v5 v6 r8 r9 r10 r11 v7 r12 r13 v8 v9 h1 r14 v10 v11 r15 v12 v13 r16 v14 w15 r17 v16 v17 r18 r19 r20 r21 r22 r23 v18 r24 r25 r26 v19 h1 g0 f20) U.heap ∧ va_K (dC, dI) vwCl [(g0, .int)] U ∧ va_D (fun _ => True) (wd_5013416a h0 v0 r0 v1 v2 v3 v4 r1 r2 r3 r4 r5 r6 r7 v5 v6 r8 r9 r10 r11 v7 r12 r13 v8 v9 h1 r14 v10 v11 r15 v12 v13 r16 v14 w15 r17 v16 v17 r18 r19 r20 r21 r22 r23 v18 r24 r25 r26 v19 h1 g0 f20))) (va_Qi (fun (r : Int32) (r9 : Int32) => r9 = r) (fun (r : Int32) (t : State) => (va_P (dC, dI) vwCl (wd_5013416a h0 v0 r0 v1 v2 v3 v4 r1 r2 r3 r4 r5 r6 r7 v5 v6 r8 r9 r10 r11 v7 r12 r13 v8 v9 h1 r14 v10 v11 r15 v12 v13 r16 v14 w15 r17 v16 v17 r18 r19 r20 r21 r22 r23 v18 r24 r25 r26 v19 h1 g0 f20) t.heap ∧ va_K (dC, dI) vwCl [] t ∧ va_D (va_A (wd_5013416a h0 v0 r0 v1 v2 v3 v4 r1 r2 r3 r4 r5 r6 r7 v5 v6 r8 r9 r10 r11 v7 r12 r13 v8 v9 h1 r14 v10 v11 r15 v12 v13 r16 v14 w15 r17 v16 v17 r18 r19 r20 r21 r22 r23 v18 r24 r25 r26 v19 h1 g0 f20) sz) (wd_5013416a h0 v0 r0 v1 v2 v3 v4 r1 r2 r3 r4 r5 r6 r7 v5 v6 r8 r9 r10 r11 v7 r12 r13 v8 v9 h1 r14 v10 v11 r15 v12 v13 r16 v14 w15 r17 v16 v17 r18 r19 r20 r21 r22 r23 v18 r24 r25 r26 v19 h1 g0 f20))) (va_A (wd_5013416a h0 v0 r0 v1 v2 v3 v4 r1 r2 r3 r4 r5 r6 r7 v5 v6 r8 r9 r10 r11 v7 r12 r13 v8 v9 h1 r14 v10 v11 r15 v12 v13 r16 v14 w15 r17 v16 v17 r18 r19 r20 r21 r22 r23 v18 r24 r25 r26 v19 h1 g0 f20) sz)) 0 0 (va_A (wd_5013416a h0 v0 r0 v1 v2 v3 v4 r1 r2 r3 r4 r5 r6 r7 v5 v6 r8 r9 r10 r11 v7 r12 r13 v8 v9 h1 r14 v10 v11 r15 v12 v13 r16 v14 w15 r17 v16 v17 r18 r19 r20 r21 r22 r23 v18 r24 r25 r26 v19 h1 g0 f20) sz) := by
  refine Met.ofW (cc := cX12_withOf) (maxL := 4) (ret := (some .int)) (by decide) rfl ?_
  intro p e s m args below meth c s₁ B hml hv
  obtain ⟨i_v1a, i_v1b⟩ := i_v1
  obtain ⟨i_v5a, i_v5b⟩ := i_v5
  obtain ⟨i_v6a, i_v6b⟩ := i_v6
  obtain ⟨i_v7a, i_v7b⟩ := i_v7
  obtain ⟨i_v8a, i_v8b⟩ := i_v8
  obtain ⟨i_v9a, i_v9b⟩ := i_v9
  obtain ⟨i_v10a, i_v10b⟩ := i_v10
  obtain ⟨i_v14a, i_v14b⟩ := i_v14
  obtain ⟨i_v18a, i_v18b⟩ := i_v18
  obtain ⟨i_v19a, i_v19b⟩ := i_v19
  obtain ⟨i_v21a, i_v21b⟩ := i_v21
  obtain ⟨rfl, hsz, hP, hK, hD0⟩ := hv
  have hx := B.exec
  have hb := B.bytes
  have hr := B.returns
  have hts := atoms_spec (ws := q_X12_withOf) B.pre
  have hown : s.vm.findClass RX12 = some m.cls := findClass_of_methodNamed B.named
  have hlocks := B.notSynchronized
  subst hsz
  have hD := hD0.self (sz := s.heap.size)
  generalize hAe : va_A (wd_5013416a h0 v0 r0 v1 v2 v3 v4 r1 r2 r3 r4 r5 r6 r7 v5 v6 r8 r9 r10 r11 v7 r12 r13 v8 v9 h1 r14 v10 v11 r15 v12 v13 r16 v14 w15 r17 v16 v17 r18 r19 r20 r21 r22 r23 v18 r24 r25 r26 v19 h1 g0 f20) s.heap.size = A at hD ⊢
  have hA : ∀ q : Nat, s.heap.size ≤ q → A q := fun q h => by rw [← hAe]; exact Or.inr h
  have hS : va_S A s.heap s.heap [] := va_S.rf
  generalize hQ : (MQ below _ _ s 0 0 A) = Q
  have hl := lv_entry ([.ref h0, .int v21]) (n := 4) (Nat.le_of_ble_eq_true rfl)
  rw [lg_entry_eq]
  generalize (lg_sl ([.ref h0, .int v21]) ++ List.replicate (4 - (lg_sl ([.ref h0, .int v21])).length) Slot.unset).toArray = ls at hl ⊢
  have hl : lv_has ls 4 [(0, .ref h0), (1, .int v21)] := hl
  obtain ⟨H, hH⟩ : ∃ H : Heap, H = s.heap := ⟨_, rfl⟩
  obtain ⟨locs, hlocs⟩ : ∃ y : List Loc, y = [] := ⟨_, rfl⟩
  have hS : va_S A s.heap H locs := by rw [hH, hlocs]; exact va_S.rf
  have hP : va_P (dC, dI) vwCl (wd_5013416a h0 v0 r0 v1 v2 v3 v4 r1 r2 r3 r4 r5 r6 r7 v5 v6 r8 r9 r10 r11 v7 r12 r13 v8 v9 h1 r14 v10 v11 r15 v12 v13 r16 v14 w15 r17 v16 v17 r18 r19 r20 r21 r22 r23 v18 r24 r25 r26 v19 h1 g0 f20) H := by rw [hH]; exact hP
  rw [← hH, ← hlocs]
  refine lv_iconst (v := 0) hx hb dX12_withOf_0 (by decide) ?_
  refine lv_istore_n (lv' := [(2, .int 0), (0, .ref h0), (1, .int v21)]) hx hb dX12_withOf_1 rfl hl (by decide) rfl (fun ls hl => ?_)
  refine lv_iconst (v := 0) hx hb dX12_withOf_2 (by decide) ?_
  refine lv_istore_n (lv' := [(3, .int 0), (2, .int 0), (0, .ref h0), (1, .int v21)]) hx hb dX12_withOf_3 rfl hl (by decide) rfl (fun ls hl => ?_)
  have hL29 : ∀ (n9 : Nat), ∀ (x25 : Int32) (x26 : Int32) (H : Heap) (locs : List Loc) (ls : Array Slot), 0 ≤ x25.toInt → x25.toInt ≤ 8 → (8 - x25.toInt).toNat < n9 → va_P (dC, dI) vwCl (wd_5013416a h0 v0 r0 v1 v2 v3 v4 r1 r2 r3 r4 r5 r6 r7 v5 v6 r8 r9 r10 r11 v7 r12 r13 v8 v9 h1 r14 v10 v11 r15 v12 v13 r16 v14 w15 r17 v16 v17 r18 r19 r20 r21 r22 r23 v18 r24 r25 r26 v19 h1 g0 f20) H → va_D A (wd_5013416a h0 v0 r0 v1 v2 v3 v4 r1 r2 r3 r4 r5 r6 r7 v5 v6 r8 r9 r10 r11 v7 r12 r13 v8 v9 h1 r14 v10 v11 r15 v12 v13 r16 v14 w15 r17 v16 v17 r18 r19 r20 r21 r22 r23 v18 r24 r25 r26 v19 h1 g0 f20) → va_S A s.heap H locs → lv_has ls 4 [(3, .int x25), (2, .int x26), (0, .ref h0), (1, .int v21)] → W p l e ({ frames := 2, cells := 0, slots := 0, locals := 43 }) s m ([.ref h0, .int v21] : List Value).toArray below meth c H locs 0 0 Q (F0 m 4 ls []) := by
    intro n9
    induction n9 with
    | zero => intro x25 x26 H locs ls qa_x25 qb_x25 hm9 hP hD hS hl; exact absurd hm9 (Nat.not_lt_zero _)
    | succ n9 ih_hL29 =>
      intro x25 x26 H locs ls qa_x25 qb_x25 hm9 hP hD hS hl
      refine lv_iload_n hx hb dX12_withOf_4 rfl (lv_at hl 0 rfl) ?_
      refine lv_bipush (v := 8) hx hb dX12_withOf_5 (by decide) ?_
      refine lv_icmp_ge (tgt := 52) hx hb dX12_withOf_7 (by decide) (fun c30 => ?_) (fun c30 => ?_)
      · skip
        have fc30 : 8 ≤ x25.toInt := Int32.le_iff_toInt_le.mp c30
        refine lv_iload_n hx hb dX12_withOf_52 rfl (lv_at hl 1 rfl) ?_
        subst hQ
        have hP9 := hP.sub (ws' := (wd_5013416a h0 v0 r0 v1 v2 v3 v4 r1 r2 r3 r4 r5 r6 r7 v5 v6 r8 r9 r10 r11 v7 r12 r13 v8 v9 h1 r14 v10 v11 r15 v12 v13 r16 v14 w15 r17 v16 v17 r18 r19 r20 r21 r22 r23 v18 r24 r25 r26 v19 h1 g0 f20)) [0, 1] rfl
        have hD9 := hD.sub (ws' := (wd_5013416a h0 v0 r0 v1 v2 v3 v4 r1 r2 r3 r4 r5 r6 r7 v5 v6 r8 r9 r10 r11 v7 r12 r13 v8 v9 h1 r14 v10 v11 r15 v12 v13 r16 v14 w15 r17 v16 v17 r18 r19 r20 r21 r22 r23 v18 r24 r25 r26 v19 h1 g0 f20)) [0, 1] (by decide) rfl
        have hK9 := hK.sub (tys' := []) [] rfl
        exact W.iret (v := x26) hx hb hr (fun t ht hW => ⟨⟨x26, x26, rfl, rfl, ⟨by rw [ht]; exact hP9, va_K.moved hW.alike hK9, hD9⟩⟩, hS.F ht⟩) hS.2.2 dX12_withOf_53
      · skip
        have fc30 : ¬ (8 ≤ x25.toInt) := fun h9 => c30 (Int32.le_iff_toInt_le.mpr h9)
        refine lv_iload_n hx hb dX12_withOf_10 rfl (lv_at hl 1 rfl) ?_
        refine lv_iload_n hx hb dX12_withOf_11 rfl (lv_at hl 0 rfl) ?_
        refine lv_iload_n hx hb dX12_withOf_12 rfl (lv_at hl 3 rfl) ?_
        have hJ32 : ∀ (x31 : Int32) (H : Heap) (locs : List Loc) (ls : Array Slot), 0 ≤ x31.toInt → x31.toInt ≤ 1 → va_P (dC, dI) vwCl (wd_5013416a h0 v0 r0 v1 v2 v3 v4 r1 r2 r3 r4 r5 r6 r7 v5 v6 r8 r9 r10 r11 v7 r12 r13 v8 v9 h1 r14 v10 v11 r15 v12 v13 r16 v14 w15 r17 v16 v17 r18 r19 r20 r21 r22 r23 v18 r24 r25 r26 v19 h1 g0 f20) H → va_D A (wd_5013416a h0 v0 r0 v1 v2 v3 v4 r1 r2 r3 r4 r5 r6 r7 v5 v6 r8 r9 r10 r11 v7 r12 r13 v8 v9 h1 r14 v10 v11 r15 v12 v13 r16 v14 w15 r17 v16 v17 r18 r19 r20 r21 r22 r23 v18 r24 r25 r26 v19 h1 g0 f20) → va_S A s.heap H locs → lv_has ls 4 [(3, .int x25), (2, .int x26), (0, .ref h0), (1, .int v21)] → W p l e ({ frames := 2, cells := 0, slots := 0, locals := 43 }) s m ([.ref h0, .int v21] : List Value).toArray below meth c H locs 0 0 Q (F0 m 44 ls [.int x31, .int x26]) := by
          intro x31 H locs ls qa_x31 qb_x31 hP hD hS hl
          refine lv_iadd hx hb dX12_withOf_44 ?_
          refine lv_topi (fun t33 et33 => ?_)
          refine lv_istore_n (lv' := [(2, .int t33), (3, .int x25), (0, .ref h0), (1, .int v21)]) hx hb dX12_withOf_45 rfl hl (by decide) rfl (fun ls hl => ?_)
          obtain ⟨t34, et34⟩ : ∃ y : Int32, y = x25 + 1 := ⟨_, rfl⟩
          have gt34 : t34.toInt = x25.toInt + (1) := pv_add (a := x25.toInt) (b := (1)) et34 rfl (by decide) (by omega) (by omega)
          refine lv_iinc (v := t34) (lv' := [(3, .int t34), (2, .int t33), (0, .ref h0), (1, .int v21)]) hx hb dX12_withOf_46 hl (k := 1) rfl (by rw [et34]; rfl) (by decide) rfl (fun ls hl => ?_)
          refine lv_goto (tgt := 4) hx hb dX12_withOf_49 (by decide) ?_
          exact ih_hL29 t34 t33 H locs ls (by first | omega | decide) (by first | omega | decide) (by first | omega | (simp only [Int.toNat] at *; omega)) hP hD hS (lv_sub hl [0, 1, 2, 3] rfl)
        refine lv_icmp_eq (tgt := 43) hx hb dX12_withOf_13 (by decide) (fun c35 => ?_) (fun c35 => ?_)
        · skip
          have fc35 : x25.toInt = v21.toInt := congrArg Int32.toInt c35
          have r1c35 := Int32.toInt_lt x25
          have r2c35 := Int32.toInt_lt v21
          have r3c35 := Int32.le_toInt x25
          have r4c35 := Int32.le_toInt v21
          refine lv_iconst (v := 0) hx hb dX12_withOf_43 (by decide) ?_
          exact hJ32 0 H locs ls (by decide) (by decide) hP hD hS (lv_sub hl [0, 1, 2, 3] rfl)
        · skip
          have fc35 : ¬ (x25.toInt = v21.toInt) := fun h9 => c35 (Int32.toInt_inj.mp h9)
          have r1c35 := Int32.toInt_lt x25
          have r2c35 := Int32.toInt_lt v21
          have r3c35 := Int32.le_toInt x25
          have r4c35 := Int32.le_toInt v21
          refine lv_aload_n hx hb dX12_withOf_16 rfl (lv_at hl 2 rfl) ?_
          refine lv_iload_n hx hb dX12_withOf_17 rfl (lv_at hl 0 rfl) ?_
          have hPc := hP.sub (ws' := (wd_5013416a h0 v0 r0 v1 v2 v3 v4 r1 r2 r3 r4 r5 r6 r7 v5 v6 r8 r9 r10 r11 v7 r12 r13 v8 v9 h1 r14 v10 v11 r15 v12 v13 r16 v14 w15 r17 v16 v17 r18 r19 r20 r21 r22 r23 v18 r24 r25 r26 v19 h1 g0 f20)) [0, 1] rfl
          have hDc := hD.sub (ws' := (wd_5013416a h0 v0 r0 v1 v2 v3 v4 r1 r2 r3 r4 r5 r6 r7 v5 v6 r8 r9 r10 r11 v7 r12 r13 v8 v9 h1 r14 v10 v11 r15 v12 v13 r16 v14 w15 r17 v16 v17 r18 r19 r20 r21 r22 r23 v18 r24 r25 r26 v19 h1 g0 f20)) [0, 1] (by decide) rfl
          have hKc := hK.sub (tys' := [(g0, .int)]) [0] rfl
          have hFc := va_free (wc := (wd_5013416a h0 v0 r0 v1 v2 v3 v4 r1 r2 r3 r4 r5 r6 r7 v5 v6 r8 r9 r10 r11 v7 r12 r13 v8 v9 h1 r14 v10 v11 r15 v12 v13 r16 v14 w15 r17 v16 v17 r18 r19 r20 r21 r22 r23 v18 r24 r25 r26 v19 h1 g0 f20)) hD hS hA [0, 1] rfl
          refine va_calli (va_runV (As := [.int x25]) (rest := [.int x26]) ⟨hx, hb, hml, hown, hts⟩ (k_X12_isThere l dC dI h0 h1 v0 r0 v1 v2 v3 v4 r1 r2 r3 r4 r5 r6 r7 v5 v6 r8 r9 r10 r11 v7 r12 r13 v8 v9 r14 v10 v11 r15 v12 v13 r16 v14 w15 r17 v16 v17 r18 r19 r20 r21 r22 r23 v18 r24 r25 r26 v19 g0 f20 x25 ⟨i_v1a, i_v1b⟩ ⟨i_v5a, i_v5b⟩ ⟨i_v6a, i_v6b⟩ ⟨i_v7a, i_v7b⟩ ⟨i_v8a, i_v8b⟩ ⟨i_v9a, i_v9b⟩ ⟨i_v10a, i_v10b⟩ ⟨i_v14a, i_v14b⟩ ⟨i_v18a, i_v18b⟩ ⟨i_v19a, i_v19b⟩ ia_f20 H.size) (cwV 1 hts g_X12_withOf_0 rfl rfl rfl (by decide +kernel) ⟨Nat.le_of_ble_eq_true rfl, Nat.le_of_ble_eq_true rfl⟩) (pv_PV12 hPc hKc hDc (q0 := 0) rfl) rfl rfl hl.1 rfl (lv_room (Nat.le_of_ble_eq_true rfl)) dX12_withOf_18 ⟨Nat.le_of_ble_eq_true rfl, Nat.le_of_ble_eq_true rfl⟩) hS (fun q _ h => hFc q h) hFc (fun ra36 u t H1 locs ht hvm hwra36 hB hz1 hk1 hS => ?_)
          try rw [hwra36] at hB
          obtain ⟨pt0_ra36, pt1_ra36, pt2_ra36, pt3_ra36, pt4_ra36, pt5_ra36, hP1, hK1, hD1⟩ := hB
          rw [ht] at hP1
          obtain ⟨hP2, hD2⟩ := va_join (wr := []) (w1 := (wd_5013416a h0 v0 r0 v1 v2 v3 v4 r1 r2 r3 r4 r5 r6 r7 v5 v6 r8 r9 r10 r11 v7 r12 r13 v8 v9 h1 r14 v10 v11 r15 v12 v13 r16 v14 w15 r17 v16 v17 r18 r19 r20 r21 r22 r23 v18 r24 r25 r26 v19 h1 g0 f20)) hP hD [0, 1] [] rfl rfl (by decide) (by decide) hk1 hFc hP1 hD1
          clear hP hD hPc hDc hKc hFc hP1 hK1 hD1 hk1 hz1
          generalize H1 = H at hP2 hS ⊢
          have hP : va_P (dC, dI) vwCl (wd_5013416a h0 v0 r0 v1 v2 v3 v4 r1 r2 r3 r4 r5 r6 r7 v5 v6 r8 r9 r10 r11 v7 r12 r13 v8 v9 h1 r14 v10 v11 r15 v12 v13 r16 v14 w15 r17 v16 v17 r18 r19 r20 r21 r22 r23 v18 r24 r25 r26 v19 h1 g0 f20) H := hP2
          have hD : va_D A (wd_5013416a h0 v0 r0 v1 v2 v3 v4 r1 r2 r3 r4 r5 r6 r7 v5 v6 r8 r9 r10 r11 v7 r12 r13 v8 v9 h1 r14 v10 v11 r15 v12 v13 r16 v14 w15 r17 v16 v17 r18 r19 r20 r21 r22 r23 v18 r24 r25 r26 v19 h1 g0 f20) := hD2
          clear hP2 hD2
          have wra36 : ra36.toInt = 0 → ¬ f20 (pm_I x25 7) = 1 := fun h9 => pt5_ra36 h9 (by omega) (by omega)
          refine lv_if_eq (tgt := 43) hx hb dX12_withOf_21 (by decide) (fun c37 => ?_) (fun c37 => ?_)
          · skip
            have fc37 : ra36.toInt = 0 := congrArg Int32.toInt c37
            have q0wra36 := wra36 (by omega)
            refine lv_iconst (v := 0) hx hb dX12_withOf_43 (by decide) ?_
            exact hJ32 0 H locs ls (by decide) (by decide) hP hD hS (lv_sub hl [0, 1, 2, 3] rfl)
          · skip
            have fc37 : ¬ (ra36.toInt = 0) := fun h9 => c37 (Int32.toInt_inj.mp h9)
            have q1pt4_ra36 := pt4_ra36 (by omega)
            refine lv_aload_n hx hb dX12_withOf_24 rfl (lv_at hl 2 rfl) ?_
            refine lv_iload_n hx hb dX12_withOf_25 rfl (lv_at hl 0 rfl) ?_
            refine lv_iconst (v := 3) hx hb dX12_withOf_26 (by decide) ?_
            have hPc := hP.sub (ws' := (wd_5013416a h0 v0 r0 v1 v2 v3 v4 r1 r2 r3 r4 r5 r6 r7 v5 v6 r8 r9 r10 r11 v7 r12 r13 v8 v9 h1 r14 v10 v11 r15 v12 v13 r16 v14 w15 r17 v16 v17 r18 r19 r20 r21 r22 r23 v18 r24 r25 r26 v19 h1 g0 f20)) [0, 1] rfl
            have hDc := hD.sub (ws' := (wd_5013416a h0 v0 r0 v1 v2 v3 v4 r1 r2 r3 r4 r5 r6 r7 v5 v6 r8 r9 r10 r11 v7 r12 r13 v8 v9 h1 r14 v10 v11 r15 v12 v13 r16 v14 w15 r17 v16 v17 r18 r19 r20 r21 r22 r23 v18 r24 r25 r26 v19 h1 g0 f20)) [0, 1] (by decide) rfl
            have hKc := hK.sub (tys' := [(g0, .int)]) [0] rfl
            have hFc := va_free (wc := (wd_5013416a h0 v0 r0 v1 v2 v3 v4 r1 r2 r3 r4 r5 r6 r7 v5 v6 r8 r9 r10 r11 v7 r12 r13 v8 v9 h1 r14 v10 v11 r15 v12 v13 r16 v14 w15 r17 v16 v17 r18 r19 r20 r21 r22 r23 v18 r24 r25 r26 v19 h1 g0 f20)) hD hS hA [0, 1] rfl
            refine va_calli (va_runV (As := [.int x25, .int 3]) (rest := [.int x26]) ⟨hx, hb, hml, hown, hts⟩ (k_X12_of_4 l dC dI h0 h1 v0 r0 v1 v2 v3 v4 r1 r2 r3 r4 r5 r6 r7 v5 v6 r8 r9 r10 r11 v7 r12 r13 v8 v9 r14 v10 v11 r15 v12 v13 r16 v14 w15 r17 v16 v17 r18 r19 r20 r21 r22 r23 v18 r24 r25 r26 v19 g0 f20 x25 ⟨i_v1a, i_v1b⟩ ⟨i_v5a, i_v5b⟩ ⟨i_v6a, i_v6b⟩ ⟨i_v7a, i_v7b⟩ ⟨i_v8a, i_v8b⟩ ⟨i_v9a, i_v9b⟩ ⟨i_v10a, i_v10b⟩ ⟨i_v14a, i_v14b⟩ ⟨i_v18a, i_v18b⟩ ⟨i_v19a, i_v19b⟩ ⟨qa_x25, by first | omega | decide⟩ ia_f20 H.size) (cwV 2 hts g_X12_withOf_1 rfl rfl rfl (by decide +kernel) ⟨Nat.le_of_ble_eq_true rfl, Nat.le_of_ble_eq_true rfl⟩) (pv_PV12 hPc hKc hDc (q0 := 0) rfl) rfl rfl hl.1 rfl (lv_room (Nat.le_of_ble_eq_true rfl)) dX12_withOf_27 ⟨Nat.le_of_ble_eq_true rfl, Nat.le_of_ble_eq_true rfl⟩) hS (fun q _ h => hFc q h) hFc (fun ra38 u t H1 locs ht hvm hwra38 hB hz1 hk1 hS => ?_)
            try rw [hwra38] at hB
            obtain ⟨pt0_ra38, hP1, hK1, hD1⟩ := hB
            rw [ht] at hP1
            obtain ⟨hP2, hD2⟩ := va_join (wr := []) (w1 := (wd_5013416a h0 v0 r0 v1 v2 v3 v4 r1 r2 r3 r4 r5 r6 r7 v5 v6 r8 r9 r10 r11 v7 r12 r13 v8 v9 h1 r14 v10 v11 r15 v12 v13 r16 v14 w15 r17 v16 v17 r18 r19 r20 r21 r22 r23 v18 r24 r25 r26 v19 h1 g0 f20)) hP hD [0, 1] [] rfl rfl (by decide) (by decide) hk1 hFc hP1 hD1
            clear hP hD hPc hDc hKc hFc hP1 hK1 hD1 hk1 hz1
            generalize H1 = H at hP2 hS ⊢
            have hP : va_P (dC, dI) vwCl (wd_5013416a h0 v0 r0 v1 v2 v3 v4 r1 r2 r3 r4 r5 r6 r7 v5 v6 r8 r9 r10 r11 v7 r12 r13 v8 v9 h1 r14 v10 v11 r15 v12 v13 r16 v14 w15 r17 v16 v17 r18 r19 r20 r21 r22 r23 v18 r24 r25 r26 v19 h1 g0 f20) H := hP2
            have hD : va_D A (wd_5013416a h0 v0 r0 v1 v2 v3 v4 r1 r2 r3 r4 r5 r6 r7 v5 v6 r8 r9 r10 r11 v7 r12 r13 v8 v9 h1 r14 v10 v11 r15 v12 v13 r16 v14 w15 r17 v16 v17 r18 r19 r20 r21 r22 r23 v18 r24 r25 r26 v19 h1 g0 f20) := hD2
            clear hP2 hD2
            refine lv_aload_n hx hb dX12_withOf_30 rfl (lv_at hl 2 rfl) ?_
            refine lv_iload_n hx hb dX12_withOf_31 rfl (lv_at hl 3 rfl) ?_
            refine lv_iconst (v := 3) hx hb dX12_withOf_32 (by decide) ?_
            have hPc := hP.sub (ws' := (wd_5013416a h0 v0 r0 v1 v2 v3 v4 r1 r2 r3 r4 r5 r6 r7 v5 v6 r8 r9 r10 r11 v7 r12 r13 v8 v9 h1 r14 v10 v11 r15 v12 v13 r16 v14 w15 r17 v16 v17 r18 r19 r20 r21 r22 r23 v18 r24 r25 r26 v19 h1 g0 f20)) [0, 1] rfl
            have hDc := hD.sub (ws' := (wd_5013416a h0 v0 r0 v1 v2 v3 v4 r1 r2 r3 r4 r5 r6 r7 v5 v6 r8 r9 r10 r11 v7 r12 r13 v8 v9 h1 r14 v10 v11 r15 v12 v13 r16 v14 w15 r17 v16 v17 r18 r19 r20 r21 r22 r23 v18 r24 r25 r26 v19 h1 g0 f20)) [0, 1] (by decide) rfl
            have hKc := hK.sub (tys' := [(g0, .int)]) [0] rfl
            have hFc := va_free (wc := (wd_5013416a h0 v0 r0 v1 v2 v3 v4 r1 r2 r3 r4 r5 r6 r7 v5 v6 r8 r9 r10 r11 v7 r12 r13 v8 v9 h1 r14 v10 v11 r15 v12 v13 r16 v14 w15 r17 v16 v17 r18 r19 r20 r21 r22 r23 v18 r24 r25 r26 v19 h1 g0 f20)) hD hS hA [0, 1] rfl
            refine va_calli (va_runV (As := [.int v21, .int 3]) (rest := [.int ra38, .int x26]) ⟨hx, hb, hml, hown, hts⟩ (k_X12_of_4 l dC dI h0 h1 v0 r0 v1 v2 v3 v4 r1 r2 r3 r4 r5 r6 r7 v5 v6 r8 r9 r10 r11 v7 r12 r13 v8 v9 r14 v10 v11 r15 v12 v13 r16 v14 w15 r17 v16 v17 r18 r19 r20 r21 r22 r23 v18 r24 r25 r26 v19 g0 f20 v21 ⟨i_v1a, i_v1b⟩ ⟨i_v5a, i_v5b⟩ ⟨i_v6a, i_v6b⟩ ⟨i_v7a, i_v7b⟩ ⟨i_v8a, i_v8b⟩ ⟨i_v9a, i_v9b⟩ ⟨i_v10a, i_v10b⟩ ⟨i_v14a, i_v14b⟩ ⟨i_v18a, i_v18b⟩ ⟨i_v19a, i_v19b⟩ ⟨i_v21a, i_v21b⟩ ia_f20 H.size) (cwV 2 hts g_X12_withOf_1 rfl rfl rfl (by decide +kernel) ⟨Nat.le_of_ble_eq_true rfl, Nat.le_of_ble_eq_true rfl⟩) (pv_PV12 hPc hKc hDc (q0 := 0) rfl) rfl rfl hl.1 rfl (lv_room (Nat.le_of_ble_eq_true rfl)) dX12_withOf_33 ⟨Nat.le_of_ble_eq_true rfl, Nat.le_of_ble_eq_true rfl⟩) hS (fun q _ h => hFc q h) hFc (fun ra39 u t H1 locs ht hvm hwra39 hB hz1 hk1 hS => ?_)
            try rw [hwra39] at hB
            obtain ⟨pt0_ra39, hP1, hK1, hD1⟩ := hB
            rw [ht] at hP1
            obtain ⟨hP2, hD2⟩ := va_join (wr := []) (w1 := (wd_5013416a h0 v0 r0 v1 v2 v3 v4 r1 r2 r3 r4 r5 r6 r7 v5 v6 r8 r9 r10 r11 v7 r12 r13 v8 v9 h1 r14 v10 v11 r15 v12 v13 r16 v14 w15 r17 v16 v17 r18 r19 r20 r21 r22 r23 v18 r24 r25 r26 v19 h1 g0 f20)) hP hD [0, 1] [] rfl rfl (by decide) (by decide) hk1 hFc hP1 hD1
            clear hP hD hPc hDc hKc hFc hP1 hK1 hD1 hk1 hz1
            generalize H1 = H at hP2 hS ⊢
            have hP : va_P (dC, dI) vwCl (wd_5013416a h0 v0 r0 v1 v2 v3 v4 r1 r2 r3 r4 r5 r6 r7 v5 v6 r8 r9 r10 r11 v7 r12 r13 v8 v9 h1 r14 v10 v11 r15 v12 v13 r16 v14 w15 r17 v16 v17 r18 r19 r20 r21 r22 r23 v18 r24 r25 r26 v19 h1 g0 f20) H := hP2
            have hD : va_D A (wd_5013416a h0 v0 r0 v1 v2 v3 v4 r1 r2 r3 r4 r5 r6 r7 v5 v6 r8 r9 r10 r11 v7 r12 r13 v8 v9 h1 r14 v10 v11 r15 v12 v13 r16 v14 w15 r17 v16 v17 r18 r19 r20 r21 r22 r23 v18 r24 r25 r26 v19 h1 g0 f20) := hD2
            clear hP2 hD2
            refine lv_icmp_ne (tgt := 43) hx hb dX12_withOf_36 (by decide) (fun c40 => ?_) (fun c40 => ?_)
            · skip
              have fc40 : ¬ (ra38.toInt = ra39.toInt) := fun h9 => c40 (Int32.toInt_inj.mp h9)
              have r1c40 := Int32.toInt_lt ra38
              have r2c40 := Int32.toInt_lt ra39
              have r3c40 := Int32.le_toInt ra38
              have r4c40 := Int32.le_toInt ra39
              refine lv_iconst (v := 0) hx hb dX12_withOf_43 (by decide) ?_
              exact hJ32 0 H locs ls (by decide) (by decide) hP hD hS (lv_sub hl [0, 1, 2, 3] rfl)
            · skip
              have fc40 : ra38.toInt = ra39.toInt := congrArg Int32.toInt c40
              have r1c40 := Int32.toInt_lt ra38
              have r2c40 := Int32.toInt_lt ra39
              have r3c40 := Int32.le_toInt ra38
              have r4c40 := Int32.le_toInt ra39
              refine lv_iconst (v := 1) hx hb dX12_withOf_39 (by decide) ?_
              refine lv_goto (tgt := 44) hx hb dX12_withOf_40 (by decide) ?_
              exact hJ32 1 H locs ls (by decide) (by decide) hP hD hS (lv_sub hl [0, 1, 2, 3] rfl)
  exact hL29 _ 0 0 H locs ls (by decide) (by decide) (Nat.lt_succ_self _) hP hD hS (lv_sub hl [0, 1, 2, 3] rfl)
def q_X12_freePlace : List Cond := .code yX12_freePlace cX12_freePlace 2 (some .int) :: (([.code yX12_isThere cX12_isThere 2 (some .boolean), .code yX12_in cX12_in 3 (some .boolean), .initialized RX12, .static yX12_in, .methodLink RX12 217 yX12_in, .code yX12_of cX12_of 3 (some .int), .fieldLink RX12 52 "LeftArgumentsModel" "now" "[I", .instanceMethod yX12_of, .selects RX12 yX12_of yX12_of, .methodLink RX12 287 yX12_of, .instanceMethod yX12_isThere, .selects RX12 yX12_isThere yX12_isThere, .methodLink RX12 290 yX12_isThere] : List Cond) ++ wsX120)
set_option maxRecDepth 20000 in
theorem g_X12_freePlace_0 : GoodIn q_X12_freePlace (wsV RX12 290 RX12 yX12_isThere q_X12_isThere) := goodIn_app (goodIn_r _ [13, 11, 12, 3] rfl (by decide +kernel)) (goodIn_ca (goodIn_r (.code yX12_isThere cX12_isThere 2 (some .boolean) :: [.code yX12_in cX12_in 3 (some .boolean), .initialized RX12, .static yX12_in, .methodLink RX12 217 yX12_in, .code yX12_of cX12_of 3 (some .int), .fieldLink RX12 52 "LeftArgumentsModel" "now" "[I", .instanceMethod yX12_of, .selects RX12 yX12_of yX12_of, .methodLink RX12 287 yX12_of]) [1, 2, 3, 4, 5, 6, 7, 8, 9, 10] rfl (by decide +kernel)) (goodIn_sub (fun _ h => List.mem_cons_of_mem _ (List.mem_append_right _ h)) gwX12))
set_option maxHeartbeats 4000000 in
set_option maxRecDepth 100000 in
theorem k_X12_freePlace (l : Launch) (dC : Nat → ClassId) (dI : Nat → Nat → Nat) (h0 : Nat) (h1 : Nat) (v0 : Int32) (r0 : Nat) (v1 : Int32) (v2 : Int32) (v3 : Int32) (v4 : Int32) (r1 : Nat) (r2 : Nat) (r3 : Nat) (r4 : Nat) (r5 : Nat) (r6 : Nat) (r7 : Nat) (v5 : Int32) (v6 : Int32) (r8 : Nat) (r9 : Nat) (r10 : Nat) (r11 : Nat) (v7 : Int32) (r12 : Nat) (r13 : Nat) (v8 : Int32) (v9 : Int32) (r14 : Nat) (v10 : Int32) (v11 : Int32) (r15 : Nat) (v12 : Int32) (v13 : Int32) (r16 : Nat) (v14 : Int32) (w15 : Int64) (r17 : Nat) (v16 : Int32) (v17 : Int32) (r18 : Nat) (r19 : Nat) (r20 : Nat) (r21 : Nat) (r22 : Nat) (r23 : Nat) (v18 : Int32) (r24 : Nat) (r25 : Nat) (r26 : Nat) (v19 : Int32) (g0 : ClassId) (f20 : Nat → Int32) (i_v1 : 0 ≤ v1.toInt ∧ v1.toInt ≤ 240) (i_v5 : 0 ≤ v5.toInt ∧ v5.toInt ≤ 4) (i_v6 : 0 ≤ v6.toInt ∧ v6.toInt ≤ 4) (i_v7 : 0 ≤ v7.toInt ∧ v7.toInt ≤ 8) (i_v8 : 0 ≤ v8.toInt ∧ v8.toInt ≤ 8) (i_v9 : 0 ≤ v9.toInt ∧ v9.toInt ≤ 1) (i_v10 : -1 ≤ v10.toInt ∧ v10.toInt ≤ 3) (i_v14 : 0 ≤ v14.toInt ∧ v14.toInt ≤ 40) (i_v18 : 0 ≤ v18.toInt ∧ v18.toInt ≤ 10) (i_v19 : 0 ≤ v19.toInt ∧ v19.toInt ≤ 1) (ia_f20 : (pm_NW f20)) (sz : Nat) : Met l yX12_freePlace q_X12_freePlace ({ frames := 2, cells := 0, slots := 0, locals := 43 }) (va_Pc [.ref h0] (fun U => U.heap.size = sz ∧ va_P (dC, dI) vwCl (wd_5013416a h0 v0 r0 v1 v2 v3 v4 r1 r2 r3 r4 r5 r6 r7 v5 v6 r8 r9 r10 r11 v7 r12 r13 v8 v9 h1 r14 v10 v11 r15 v12 v13 r16 v14 w15 r17 v16 v17 r18 r19 r20 r21 r22 r23 v18 r24 r25 r26 v19 h1 g0 f20) U.heap ∧ va_K (dC, dI) vwCl [(g0, .int)] U ∧ va_D (fun _ => True) (wd_5013416a h0 v0 r0 v1 v2 v3 v4 r1 r2 r3 r4 r5 r6 r7 v5 v6 r8 r9 r10 r11 v7 r12 r13 v8 v9 h1 r14 v10 v11 r15 v12 v13 r16 v14 w15 r17 v16 v17 r18 r19 r20 r21 r22 r23 v18 r24 r25 r26 v19 h1 g0 f20))) (va_Qi (fun (r : Int32) (r9 : Int32) => r9 = r) (fun (r : Int32) (t : State) => ((-1 ≤ r.toInt) ∧ (r.toInt ≤ 7) ∧ (r.toInt = -1 → pm_full f20 8) ∧ (0 ≤ r.toInt → pm_free f20) ∧ va_P (dC, dI) vwCl (wd_5013416a h0 v0 r0 v1 v2 v3 v4 r1 r2 r3 r4 r5 r6 r7 v5 v6 r8 r9 r10 r11 v7 r12 r13 v8 v9 h1 r14 v10 v11 r15 v12 v13 r16 v14 w15 r17 v16 v17 r18 r19 r20 r21 r22 r23 v18 r24 r25 r26 v19 h1 g0 f20) t.heap ∧ va_K (dC, dI) vwCl [] t ∧ va_D (va_A (wd_5013416a h0 v0 r0 v1 v2 v3 v4 r1 r2 r3 r4 r5 r6 r7 v5 v6 r8 r9 r10 r11 v7 r12 r13 v8 v9 h1 r14 v10 v11 r15 v12 v13 r16 v14 w15 r17 v16 v17 r18 r19 r20 r21 r22 r23 v18 r24 r25 r26 v19 h1 g0 f20) sz) (wd_5013416a h0 v0 r0 v1 v2 v3 v4 r1 r2 r3 r4 r5 r6 r7 v5 v6 r8 r9 r10 r11 v7 r12 r13 v8 v9 h1 r14 v10 v11 r15 v12 v13 r16 v14 w15 r17 v16 v17 r18 r19 r20 r21 r22 r23 v18 r24 r25 r26 v19 h1 g0 f20))) (va_A (wd_5013416a h0 v0 r0 v1 v2 v3 v4 r1 r2 r3 r4 r5 r6 r7 v5 v6 r8 r9 r10 r11 v7 r12 r13 v8 v9 h1 r14 v10 v11 r15 v12 v13 r16 v14 w15 r17 v16 v17 r18 r19 r20 r21 r22 r23 v18 r24 r25 r26 v19 h1 g0 f20) sz)) 0 0 (va_A (wd_5013416a h0 v0 r0 v1 v2 v3 v4 r1 r2 r3 r4 r5 r6 r7 v5 v6 r8 r9 r10 r11 v7 r12 r13 v8 v9 h1 r14 v10 v11 r15 v12 v13 r16 v14 w15 r17 v16 v17 r18 r19 r20 r21 r22 r23 v18 r24 r25 r26 v19 h1 g0 f20) sz) := by
  refine Met.ofW (cc := cX12_freePlace) (maxL := 2) (ret := (some .int)) (by decide) rfl ?_
  intro p e s m args below meth c s₁ B hml hv
  obtain ⟨i_v1a, i_v1b⟩ := i_v1
  obtain ⟨i_v5a, i_v5b⟩ := i_v5
  obtain ⟨i_v6a, i_v6b⟩ := i_v6
  obtain ⟨i_v7a, i_v7b⟩ := i_v7
  obtain ⟨i_v8a, i_v8b⟩ := i_v8
  obtain ⟨i_v9a, i_v9b⟩ := i_v9
  obtain ⟨i_v10a, i_v10b⟩ := i_v10
  obtain ⟨i_v14a, i_v14b⟩ := i_v14
  obtain ⟨i_v18a, i_v18b⟩ := i_v18
  obtain ⟨i_v19a, i_v19b⟩ := i_v19
  obtain ⟨rfl, hsz, hP, hK, hD0⟩ := hv
  have hx := B.exec
  have hb := B.bytes
  have hr := B.returns
  have hts := atoms_spec (ws := q_X12_freePlace) B.pre
  have hown : s.vm.findClass RX12 = some m.cls := findClass_of_methodNamed B.named
  have hlocks := B.notSynchronized
  subst hsz
  have hD := hD0.self (sz := s.heap.size)
  generalize hAe : va_A (wd_5013416a h0 v0 r0 v1 v2 v3 v4 r1 r2 r3 r4 r5 r6 r7 v5 v6 r8 r9 r10 r11 v7 r12 r13 v8 v9 h1 r14 v10 v11 r15 v12 v13 r16 v14 w15 r17 v16 v17 r18 r19 r20 r21 r22 r23 v18 r24 r25 r26 v19 h1 g0 f20) s.heap.size = A at hD ⊢
  have hA : ∀ q : Nat, s.heap.size ≤ q → A q := fun q h => by rw [← hAe]; exact Or.inr h
  have hS : va_S A s.heap s.heap [] := va_S.rf
  generalize hQ : (MQ below _ _ s 0 0 A) = Q
  have hl := lv_entry ([.ref h0]) (n := 2) (Nat.le_of_ble_eq_true rfl)
  rw [lg_entry_eq]
  generalize (lg_sl ([.ref h0]) ++ List.replicate (2 - (lg_sl ([.ref h0])).length) Slot.unset).toArray = ls at hl ⊢
  have hl : lv_has ls 2 [(0, .ref h0)] := hl
  obtain ⟨H, hH⟩ : ∃ H : Heap, H = s.heap := ⟨_, rfl⟩
  obtain ⟨locs, hlocs⟩ : ∃ y : List Loc, y = [] := ⟨_, rfl⟩
  have hS : va_S A s.heap H locs := by rw [hH, hlocs]; exact va_S.rf
  have hP : va_P (dC, dI) vwCl (wd_5013416a h0 v0 r0 v1 v2 v3 v4 r1 r2 r3 r4 r5 r6 r7 v5 v6 r8 r9 r10 r11 v7 r12 r13 v8 v9 h1 r14 v10 v11 r15 v12 v13 r16 v14 w15 r17 v16 v17 r18 r19 r20 r21 r22 r23 v18 r24 r25 r26 v19 h1 g0 f20) H := by rw [hH]; exact hP
  rw [← hH, ← hlocs]
  refine lv_iconst (v := 0) hx hb dX12_freePlace_0 (by decide) ?_
  refine lv_istore_n (lv' := [(1, .int 0), (0, .ref h0)]) hx hb dX12_freePlace_1 rfl hl (by decide) rfl (fun ls hl => ?_)
  have hL6 : ∀ (n9 : Nat), ∀ (x4 : Int32) (H : Heap) (locs : List Loc) (ls : Array Slot), 0 ≤ x4.toInt → x4.toInt ≤ 8 → (pm_full f20 x4.toInt.toNat) → (8 - x4.toInt).toNat < n9 → va_P (dC, dI) vwCl (wd_5013416a h0 v0 r0 v1 v2 v3 v4 r1 r2 r3 r4 r5 r6 r7 v5 v6 r8 r9 r10 r11 v7 r12 r13 v8 v9 h1 r14 v10 v11 r15 v12 v13 r16 v14 w15 r17 v16 v17 r18 r19 r20 r21 r22 r23 v18 r24 r25 r26 v19 h1 g0 f20) H → va_D A (wd_5013416a h0 v0 r0 v1 v2 v3 v4 r1 r2 r3 r4 r5 r6 r7 v5 v6 r8 r9 r10 r11 v7 r12 r13 v8 v9 h1 r14 v10 v11 r15 v12 v13 r16 v14 w15 r17 v16 v17 r18 r19 r20 r21 r22 r23 v18 r24 r25 r26 v19 h1 g0 f20) → va_S A s.heap H locs → lv_has ls 2 [(1, .int x4), (0, .ref h0)] → W p l e ({ frames := 2, cells := 0, slots := 0, locals := 43 }) s m ([.ref h0] : List Value).toArray below meth c H locs 0 0 Q (F0 m 2 ls []) := by
    intro n9
    induction n9 with
    | zero => intro x4 H locs ls qa_x4 qb_x4 gh0_hL6 hm9 hP hD hS hl; exact absurd hm9 (Nat.not_lt_zero _)
    | succ n9 ih_hL6 =>
      intro x4 H locs ls qa_x4 qb_x4 gh0_hL6 hm9 hP hD hS hl
      refine lv_iload_n hx hb dX12_freePlace_2 rfl (lv_at hl 0 rfl) ?_
      refine lv_bipush (v := 8) hx hb dX12_freePlace_3 (by decide) ?_
      refine lv_icmp_ge (tgt := 24) hx hb dX12_freePlace_5 (by decide) (fun c7 => ?_) (fun c7 => ?_)
      · skip
        have fc7 : 8 ≤ x4.toInt := Int32.le_iff_toInt_le.mp c7
        refine lv_iconst (v := (-1)) hx hb dX12_freePlace_24 (by decide) ?_
        subst hQ
        have hP9 := hP.sub (ws' := (wd_5013416a h0 v0 r0 v1 v2 v3 v4 r1 r2 r3 r4 r5 r6 r7 v5 v6 r8 r9 r10 r11 v7 r12 r13 v8 v9 h1 r14 v10 v11 r15 v12 v13 r16 v14 w15 r17 v16 v17 r18 r19 r20 r21 r22 r23 v18 r24 r25 r26 v19 h1 g0 f20)) [0, 1] rfl
        have hD9 := hD.sub (ws' := (wd_5013416a h0 v0 r0 v1 v2 v3 v4 r1 r2 r3 r4 r5 r6 r7 v5 v6 r8 r9 r10 r11 v7 r12 r13 v8 v9 h1 r14 v10 v11 r15 v12 v13 r16 v14 w15 r17 v16 v17 r18 r19 r20 r21 r22 r23 v18 r24 r25 r26 v19 h1 g0 f20)) [0, 1] (by decide) rfl
        have hK9 := hK.sub (tys' := []) [] rfl
        exact W.iret (v := (-1)) hx hb hr (fun t ht hW => ⟨⟨(-1), (-1), rfl, rfl, ⟨by first | omega | decide, by first | omega | decide, fun _ => pm_full.le (by assumption) (by omega), fun h9 => absurd h9 (by decide), by rw [ht]; exact hP9, va_K.moved hW.alike hK9, hD9⟩⟩, hS.F ht⟩) hS.2.2 dX12_freePlace_25
      · skip
        have fc7 : ¬ (8 ≤ x4.toInt) := fun h9 => c7 (Int32.le_iff_toInt_le.mpr h9)
        refine lv_aload_n hx hb dX12_freePlace_8 rfl (lv_at hl 1 rfl) ?_
        refine lv_iload_n hx hb dX12_freePlace_9 rfl (lv_at hl 0 rfl) ?_
        have hPc := hP.sub (ws' := (wd_5013416a h0 v0 r0 v1 v2 v3 v4 r1 r2 r3 r4 r5 r6 r7 v5 v6 r8 r9 r10 r11 v7 r12 r13 v8 v9 h1 r14 v10 v11 r15 v12 v13 r16 v14 w15 r17 v16 v17 r18 r19 r20 r21 r22 r23 v18 r24 r25 r26 v19 h1 g0 f20)) [0, 1] rfl
        have hDc := hD.sub (ws' := (wd_5013416a h0 v0 r0 v1 v2 v3 v4 r1 r2 r3 r4 r5 r6 r7 v5 v6 r8 r9 r10 r11 v7 r12 r13 v8 v9 h1 r14 v10 v11 r15 v12 v13 r16 v14 w15 r17 v16 v17 r18 r19 r20 r21 r22 r23 v18 r24 r25 r26 v19 h1 g0 f20)) [0, 1] (by decide) rfl
        have hKc := hK.sub (tys' := [(g0, .int)]) [0] rfl
        have hFc := va_free (wc := (wd_5013416a h0 v0 r0 v1 v2 v3 v4 r1 r2 r3 r4 r5 r6 r7 v5 v6 r8 r9 r10 r11 v7 r12 r13 v8 v9 h1 r14 v10 v11 r15 v12 v13 r16 v14 w15 r17 v16 v17 r18 r19 r20 r21 r22 r23 v18 r24 r25 r26 v19 h1 g0 f20)) hD hS hA [0, 1] rfl
        refine va_calli (va_runV (As := [.int x4]) (rest := []) ⟨hx, hb, hml, hown, hts⟩ (k_X12_isThere l dC dI h0 h1 v0 r0 v1 v2 v3 v4 r1 r2 r3 r4 r5 r6 r7 v5 v6 r8 r9 r10 r11 v7 r12 r13 v8 v9 r14 v10 v11 r15 v12 v13 r16 v14 w15 r17 v16 v17 r18 r19 r20 r21 r22 r23 v18 r24 r25 r26 v19 g0 f20 x4 ⟨i_v1a, i_v1b⟩ ⟨i_v5a, i_v5b⟩ ⟨i_v6a, i_v6b⟩ ⟨i_v7a, i_v7b⟩ ⟨i_v8a, i_v8b⟩ ⟨i_v9a, i_v9b⟩ ⟨i_v10a, i_v10b⟩ ⟨i_v14a, i_v14b⟩ ⟨i_v18a, i_v18b⟩ ⟨i_v19a, i_v19b⟩ ia_f20.1 H.size) (cwV 1 hts g_X12_freePlace_0 rfl rfl rfl (by decide +kernel) ⟨Nat.le_of_ble_eq_true rfl, Nat.le_of_ble_eq_true rfl⟩) (pv_PV12 hPc hKc hDc (q0 := 0) rfl) rfl rfl hl.1 rfl (lv_room (Nat.le_of_ble_eq_true rfl)) dX12_freePlace_10 ⟨Nat.le_of_ble_eq_true rfl, Nat.le_of_ble_eq_true rfl⟩) hS (fun q _ h => hFc q h) hFc (fun ra8 u t H1 locs ht hvm hwra8 hB hz1 hk1 hS => ?_)
        try rw [hwra8] at hB
        obtain ⟨pt0_ra8, pt1_ra8, pt2_ra8, pt3_ra8, pt4_ra8, pt5_ra8, hP1, hK1, hD1⟩ := hB
        rw [ht] at hP1
        obtain ⟨hP2, hD2⟩ := va_join (wr := []) (w1 := (wd_5013416a h0 v0 r0 v1 v2 v3 v4 r1 r2 r3 r4 r5 r6 r7 v5 v6 r8 r9 r10 r11 v7 r12 r13 v8 v9 h1 r14 v10 v11 r15 v12 v13 r16 v14 w15 r17 v16 v17 r18 r19 r20 r21 r22 r23 v18 r24 r25 r26 v19 h1 g0 f20)) hP hD [0, 1] [] rfl rfl (by decide) (by decide) hk1 hFc hP1 hD1
        clear hP hD hPc hDc hKc hFc hP1 hK1 hD1 hk1 hz1
        generalize H1 = H at hP2 hS ⊢
        have hP : va_P (dC, dI) vwCl (wd_5013416a h0 v0 r0 v1 v2 v3 v4 r1 r2 r3 r4 r5 r6 r7 v5 v6 r8 r9 r10 r11 v7 r12 r13 v8 v9 h1 r14 v10 v11 r15 v12 v13 r16 v14 w15 r17 v16 v17 r18 r19 r20 r21 r22 r23 v18 r24 r25 r26 v19 h1 g0 f20) H := hP2
        have hD : va_D A (wd_5013416a h0 v0 r0 v1 v2 v3 v4 r1 r2 r3 r4 r5 r6 r7 v5 v6 r8 r9 r10 r11 v7 r12 r13 v8 v9 h1 r14 v10 v11 r15 v12 v13 r16 v14 w15 r17 v16 v17 r18 r19 r20 r21 r22 r23 v18 r24 r25 r26 v19 h1 g0 f20) := hD2
        clear hP2 hD2
        have wra8 : ra8.toInt = 0 → ¬ f20 (pm_I x4 7) = 1 := fun h9 => pt5_ra8 h9 (by omega) (by omega)
        refine lv_if_ne (tgt := 18) hx hb dX12_freePlace_13 (by decide) (fun c9 => ?_) (fun c9 => ?_)
        · skip
          have fc9 : ¬ (ra8.toInt = 0) := fun h9 => c9 (Int32.toInt_inj.mp h9)
          have q1pt4_ra8 := pt4_ra8 (by omega)
          obtain ⟨t10, et10⟩ : ∃ y : Int32, y = x4 + 1 := ⟨_, rfl⟩
          have gt10 : t10.toInt = x4.toInt + (1) := pv_add (a := x4.toInt) (b := (1)) et10 rfl (by decide) (by omega) (by omega)
          refine lv_iinc (v := t10) (lv' := [(1, .int t10), (0, .ref h0)]) hx hb dX12_freePlace_18 hl (k := 0) rfl (by rw [et10]; rfl) (by decide) rfl (fun ls hl => ?_)
          refine lv_goto (tgt := 2) hx hb dX12_freePlace_21 (by decide) ?_
          exact ih_hL6 t10 H locs ls (by first | omega | decide) (by first | omega | decide) (by first | exact pm_full.zero (by decide) | (apply pm_full.next <;> first | assumption | omega)) (by first | omega | (simp only [Int.toNat] at *; omega)) hP hD hS (lv_sub hl [0, 1] rfl)
        · skip
          have fc9 : ra8.toInt = 0 := congrArg Int32.toInt c9
          have q0wra8 := wra8 (by omega)
          refine lv_iload_n hx hb dX12_freePlace_16 rfl (lv_at hl 0 rfl) ?_
          subst hQ
          have hP9 := hP.sub (ws' := (wd_5013416a h0 v0 r0 v1 v2 v3 v4 r1 r2 r3 r4 r5 r6 r7 v5 v6 r8 r9 r10 r11 v7 r12 r13 v8 v9 h1 r14 v10 v11 r15 v12 v13 r16 v14 w15 r17 v16 v17 r18 r19 r20 r21 r22 r23 v18 r24 r25 r26 v19 h1 g0 f20)) [0, 1] rfl
          have hD9 := hD.sub (ws' := (wd_5013416a h0 v0 r0 v1 v2 v3 v4 r1 r2 r3 r4 r5 r6 r7 v5 v6 r8 r9 r10 r11 v7 r12 r13 v8 v9 h1 r14 v10 v11 r15 v12 v13 r16 v14 w15 r17 v16 v17 r18 r19 r20 r21 r22 r23 v18 r24 r25 r26 v19 h1 g0 f20)) [0, 1] (by decide) rfl
          have hK9 := hK.sub (tys' := []) [] rfl
          exact W.iret (v := x4) hx hb hr (fun t ht hW => ⟨⟨x4, x4, rfl, rfl, ⟨by first | omega | decide, by first | omega | decide, fun h9 => absurd h9 (by omega), fun _ => by apply pm_free.mk <;> first | assumption | omega, by rw [ht]; exact hP9, va_K.moved hW.alike hK9, hD9⟩⟩, hS.F ht⟩) hS.2.2 dX12_freePlace_17
  exact hL6 _ 0 H locs ls (by decide) (by decide) (by first | exact pm_full.zero (by decide) | (apply pm_full.next <;> first | assumption | omega)) (Nat.lt_succ_self _) hP hD hS (lv_sub hl [0, 1] rfl)
def q_X12_largestOn : List Cond := .code yX12_largestOn cX12_largestOn 4 (some .int) :: (([.code yX12_isThere cX12_isThere 2 (some .boolean), .code yX12_in cX12_in 3 (some .boolean), .initialized RX12, .static yX12_in, .methodLink RX12 217 yX12_in, .code yX12_of cX12_of 3 (some .int), .fieldLink RX12 52 "LeftArgumentsModel" "now" "[I", .instanceMethod yX12_of, .selects RX12 yX12_of yX12_of, .methodLink RX12 287 yX12_of, .instanceMethod yX12_isThere, .selects RX12 yX12_isThere yX12_isThere, .methodLink RX12 290 yX12_isThere] : List Cond) ++ wsX120)
set_option maxRecDepth 20000 in
theorem g_X12_largestOn_0 : GoodIn q_X12_largestOn (wsV RX12 290 RX12 yX12_isThere q_X12_isThere) := goodIn_app (goodIn_r _ [13, 11, 12, 3] rfl (by decide +kernel)) (goodIn_ca (goodIn_r (.code yX12_isThere cX12_isThere 2 (some .boolean) :: [.code yX12_in cX12_in 3 (some .boolean), .initialized RX12, .static yX12_in, .methodLink RX12 217 yX12_in, .code yX12_of cX12_of 3 (some .int), .fieldLink RX12 52 "LeftArgumentsModel" "now" "[I", .instanceMethod yX12_of, .selects RX12 yX12_of yX12_of, .methodLink RX12 287 yX12_of]) [1, 2, 3, 4, 5, 6, 7, 8, 9, 10] rfl (by decide +kernel)) (goodIn_sub (fun _ h => List.mem_cons_of_mem _ (List.mem_append_right _ h)) gwX12))
set_option maxRecDepth 20000 in
theorem g_X12_largestOn_1 : GoodIn q_X12_largestOn (wsV RX12 287 RX12 yX12_of q_X12_of_4) := goodIn_app (goodIn_r _ [10, 8, 9, 3] rfl (by decide +kernel)) (goodIn_ca (goodIn_r (.code yX12_of cX12_of 3 (some .int) :: [.fieldLink RX12 52 "LeftArgumentsModel" "now" "[I"]) [6, 7] rfl (by decide +kernel)) (goodIn_sub (fun _ h => List.mem_cons_of_mem _ (List.mem_append_right _ h)) gwX12))
set_option maxRecDepth 20000 in
theorem g_X12_largestOn_2 : GoodIn q_X12_largestOn (wsV RX12 287 RX12 yX12_of q_X12_of_3) := goodIn_app (goodIn_r _ [10, 8, 9, 3] rfl (by decide +kernel)) (goodIn_ca (goodIn_r (.code yX12_of cX12_of 3 (some .int) :: [.fieldLink RX12 52 "LeftArgumentsModel" "now" "[I"]) [6, 7] rfl (by decide +kernel)) (goodIn_sub (fun _ h => List.mem_cons_of_mem _ (List.mem_append_right _ h)) gwX12))
set_option maxHeartbeats 4000000 in
set_option maxRecDepth 100000 in
theorem k_X12_largestOn (l : Launch) (dC : Nat → ClassId) (dI : Nat → Nat → Nat) (h0 : Nat) (h1 : Nat) (v0 : Int32) (r0 : Nat) (v1 : Int32) (v2 : Int32) (v3 : Int32) (v4 : Int32) (r1 : Nat) (r2 : Nat) (r3 : Nat) (r4 : Nat) (r5 : Nat) (r6 : Nat) (r7 : Nat) (v5 : Int32) (v6 : Int32) (r8 : Nat) (r9 : Nat) (r10 : Nat) (r11 : Nat) (v7 : Int32) (r12 : Nat) (r13 : Nat) (v8 : Int32) (v9 : Int32) (r14 : Nat) (v10 : Int32) (v11 : Int32) (r15 : Nat) (v12 : Int32) (v13 : Int32) (r16 : Nat) (v14 : Int32) (w15 : Int64) (r17 : Nat) (v16 : Int32) (v17 : Int32) (r18 : Nat) (r19 : Nat) (r20 : Nat) (r21 : Nat) (r22 : Nat) (r23 : Nat) (v18 : Int32) (r24 : Nat) (r25 : Nat) (r26 : Nat) (v19 : Int32) (g0 : ClassId) (f20 : Nat → Int32) (v21 : Int32) (i_v1 : 0 ≤ v1.toInt ∧ v1.toInt ≤ 240) (i_v5 : 0 ≤ v5.toInt ∧ v5.toInt ≤ 4) (i_v6 : 0 ≤ v6.toInt ∧ v6.toInt ≤ 4) (i_v7 : 0 ≤ v7.toInt ∧ v7.toInt ≤ 8) (i_v8 : 0 ≤ v8.toInt ∧ v8.toInt ≤ 8) (i_v9 : 0 ≤ v9.toInt ∧ v9.toInt ≤ 1) (i_v10 : -1 ≤ v10.toInt ∧ v10.toInt ≤ 3) (i_v14 : 0 ≤ v14.toInt ∧ v14.toInt ≤ 40) (i_v18 : 0 ≤ v18.toInt ∧ v18.toInt ≤ 10) (i_v19 : 0 ≤ v19.toInt ∧ v19.toInt ≤ 1) (ia_f20 : (pm_NW f20)) (sz : Nat) : Met l yX12_largestOn q_X12_largestOn ({ frames := 2, cells := 0, slots := 0, locals := 43 }) (va_Pc [.ref h0, .int v21] (fun U => U.heap.size = sz ∧ va_P (dC, dI) vwCl (wd_5013416a h0 v0 r0 v1 v2 v3 v4 r1 r2 r3 r4 r5 r6 r7 v5 v6 r8 r9 r10 r11 v7 r12 r13 v8 v9 h1 r14 v10 v11 r15 v12 v13 r16 v14 w15 r17 v16 v17 r18 r19 r20 r21 r22 r23 v18 r24 r25 r26 v19 h1 g0 f20) U.heap ∧ va_K (dC, dI) vwCl [(g0, .int)] U ∧ va_D (fun _ => True) (wd_5013416a h0 v0 r0 v1 v2 v3 v4 r1 r2 r3 r4 r5 r6 r7 v5 v6 r8 r9 r10 r11 v7 r12 r13 v8 v9 h1 r14 v10 v11 r15 v12 v13 r16 v14 w15 r17 v16 v17 r18 r19 r20 r21 r22 r23 v18 r24 r25 r26 v19 h1 g0 f20))) (va_Qi (fun (r : Int32) (r9 : Int32) => r9 = r) (fun (r : Int32) (t : State) => ((-1 ≤ r.toInt) ∧ (r.toInt ≤ 7) ∧ (pm_on f20 v21 → 0 ≤ r.toInt ∧ pm_at f20 v21 r.toInt.toNat) ∧ va_P (dC, dI) vwCl (wd_5013416a h0 v0 r0 v1 v2 v3 v4 r1 r2 r3 r4 r5 r6 r7 v5 v6 r8 r9 r10 r11 v7 r12 r13 v8 v9 h1 r14 v10 v11 r15 v12 v13 r16 v14 w15 r17 v16 v17 r18 r19 r20 r21 r22 r23 v18 r24 r25 r26 v19 h1 g0 f20) t.heap ∧ va_K (dC, dI) vwCl [] t ∧ va_D (va_A (wd_5013416a h0 v0 r0 v1 v2 v3 v4 r1 r2 r3 r4 r5 r6 r7 v5 v6 r8 r9 r10 r11 v7 r12 r13 v8 v9 h1 r14 v10 v11 r15 v12 v13 r16 v14 w15 r17 v16 v17 r18 r19 r20 r21 r22 r23 v18 r24 r25 r26 v19 h1 g0 f20) sz) (wd_5013416a h0 v0 r0 v1 v2 v3 v4 r1 r2 r3 r4 r5 r6 r7 v5 v6 r8 r9 r10 r11 v7 r12 r13 v8 v9 h1 r14 v10 v11 r15 v12 v13 r16 v14 w15 r17 v16 v17 r18 r19 r20 r21 r22 r23 v18 r24 r25 r26 v19 h1 g0 f20))) (va_A (wd_5013416a h0 v0 r0 v1 v2 v3 v4 r1 r2 r3 r4 r5 r6 r7 v5 v6 r8 r9 r10 r11 v7 r12 r13 v8 v9 h1 r14 v10 v11 r15 v12 v13 r16 v14 w15 r17 v16 v17 r18 r19 r20 r21 r22 r23 v18 r24 r25 r26 v19 h1 g0 f20) sz)) 0 0 (va_A (wd_5013416a h0 v0 r0 v1 v2 v3 v4 r1 r2 r3 r4 r5 r6 r7 v5 v6 r8 r9 r10 r11 v7 r12 r13 v8 v9 h1 r14 v10 v11 r15 v12 v13 r16 v14 w15 r17 v16 v17 r18 r19 r20 r21 r22 r23 v18 r24 r25 r26 v19 h1 g0 f20) sz) := by
  refine Met.ofW (cc := cX12_largestOn) (maxL := 4) (ret := (some .int)) (by decide) rfl ?_
  intro p e s m args below meth c s₁ B hml hv
  obtain ⟨i_v1a, i_v1b⟩ := i_v1
  obtain ⟨i_v5a, i_v5b⟩ := i_v5
  obtain ⟨i_v6a, i_v6b⟩ := i_v6
  obtain ⟨i_v7a, i_v7b⟩ := i_v7
  obtain ⟨i_v8a, i_v8b⟩ := i_v8
  obtain ⟨i_v9a, i_v9b⟩ := i_v9
  obtain ⟨i_v10a, i_v10b⟩ := i_v10
  obtain ⟨i_v14a, i_v14b⟩ := i_v14
  obtain ⟨i_v18a, i_v18b⟩ := i_v18
  obtain ⟨i_v19a, i_v19b⟩ := i_v19
  obtain ⟨rfl, hsz, hP, hK, hD0⟩ := hv
  have hx := B.exec
  have hb := B.bytes
  have hr := B.returns
  have hts := atoms_spec (ws := q_X12_largestOn) B.pre
  have hown : s.vm.findClass RX12 = some m.cls := findClass_of_methodNamed B.named
  have hlocks := B.notSynchronized
  subst hsz
  have hD := hD0.self (sz := s.heap.size)
  generalize hAe : va_A (wd_5013416a h0 v0 r0 v1 v2 v3 v4 r1 r2 r3 r4 r5 r6 r7 v5 v6 r8 r9 r10 r11 v7 r12 r13 v8 v9 h1 r14 v10 v11 r15 v12 v13 r16 v14 w15 r17 v16 v17 r18 r19 r20 r21 r22 r23 v18 r24 r25 r26 v19 h1 g0 f20) s.heap.size = A at hD ⊢
  have hA : ∀ q : Nat, s.heap.size ≤ q → A q := fun q h => by rw [← hAe]; exact Or.inr h
  have hS : va_S A s.heap s.heap [] := va_S.rf
  generalize hQ : (MQ below _ _ s 0 0 A) = Q
  have hl := lv_entry ([.ref h0, .int v21]) (n := 4) (Nat.le_of_ble_eq_true rfl)
  rw [lg_entry_eq]
  generalize (lg_sl ([.ref h0, .int v21]) ++ List.replicate (4 - (lg_sl ([.ref h0, .int v21])).length) Slot.unset).toArray = ls at hl ⊢
  have hl : lv_has ls 4 [(0, .ref h0), (1, .int v21)] := hl
  obtain ⟨H, hH⟩ : ∃ H : Heap, H = s.heap := ⟨_, rfl⟩
  obtain ⟨locs, hlocs⟩ : ∃ y : List Loc, y = [] := ⟨_, rfl⟩
  have hS : va_S A s.heap H locs := by rw [hH, hlocs]; exact va_S.rf
  have hP : va_P (dC, dI) vwCl (wd_5013416a h0 v0 r0 v1 v2 v3 v4 r1 r2 r3 r4 r5 r6 r7 v5 v6 r8 r9 r10 r11 v7 r12 r13 v8 v9 h1 r14 v10 v11 r15 v12 v13 r16 v14 w15 r17 v16 v17 r18 r19 r20 r21 r22 r23 v18 r24 r25 r26 v19 h1 g0 f20) H := by rw [hH]; exact hP
  rw [← hH, ← hlocs]
  refine lv_iconst (v := (-1)) hx hb dX12_largestOn_0 (by decide) ?_
  refine lv_istore_n (lv' := [(2, .int (-1)), (0, .ref h0), (1, .int v21)]) hx hb dX12_largestOn_1 rfl hl (by decide) rfl (fun ls hl => ?_)
  refine lv_iconst (v := 0) hx hb dX12_largestOn_2 (by decide) ?_
  refine lv_istore_n (lv' := [(3, .int 0), (2, .int (-1)), (0, .ref h0), (1, .int v21)]) hx hb dX12_largestOn_3 rfl hl (by decide) rfl (fun ls hl => ?_)
  have hL15 : ∀ (n9 : Nat), ∀ (x11 : Int32) (x12 : Int32) (H : Heap) (locs : List Loc) (ls : Array Slot), 0 ≤ x11.toInt → x11.toInt ≤ 8 → -1 ≤ x12.toInt → x12.toInt ≤ 7 → (pm_LG f20 v21 x12 x11.toInt.toNat) → (8 - x11.toInt).toNat < n9 → va_P (dC, dI) vwCl (wd_5013416a h0 v0 r0 v1 v2 v3 v4 r1 r2 r3 r4 r5 r6 r7 v5 v6 r8 r9 r10 r11 v7 r12 r13 v8 v9 h1 r14 v10 v11 r15 v12 v13 r16 v14 w15 r17 v16 v17 r18 r19 r20 r21 r22 r23 v18 r24 r25 r26 v19 h1 g0 f20) H → va_D A (wd_5013416a h0 v0 r0 v1 v2 v3 v4 r1 r2 r3 r4 r5 r6 r7 v5 v6 r8 r9 r10 r11 v7 r12 r13 v8 v9 h1 r14 v10 v11 r15 v12 v13 r16 v14 w15 r17 v16 v17 r18 r19 r20 r21 r22 r23 v18 r24 r25 r26 v19 h1 g0 f20) → va_S A s.heap H locs → lv_has ls 4 [(3, .int x11), (2, .int x12), (0, .ref h0), (1, .int v21)] → W p l e ({ frames := 2, cells := 0, slots := 0, locals := 43 }) s m ([.ref h0, .int v21] : List Value).toArray below meth c H locs 0 0 Q (F0 m 4 ls []) := by
    intro n9
    induction n9 with
    | zero => intro x11 x12 H locs ls qa_x11 qb_x11 qa_x12 qb_x12 gh0_hL15 hm9 hP hD hS hl; exact absurd hm9 (Nat.not_lt_zero _)
    | succ n9 ih_hL15 =>
      intro x11 x12 H locs ls qa_x11 qb_x11 qa_x12 qb_x12 gh0_hL15 hm9 hP hD hS hl
      refine lv_iload_n hx hb dX12_largestOn_4 rfl (lv_at hl 0 rfl) ?_
      refine lv_bipush (v := 8) hx hb dX12_largestOn_5 (by decide) ?_
      refine lv_icmp_ge (tgt := 60) hx hb dX12_largestOn_7 (by decide) (fun c16 => ?_) (fun c16 => ?_)
      · skip
        have fc16 : 8 ≤ x11.toInt := Int32.le_iff_toInt_le.mp c16
        refine lv_iload_n hx hb dX12_largestOn_60 rfl (lv_at hl 1 rfl) ?_
        subst hQ
        have hP9 := hP.sub (ws' := (wd_5013416a h0 v0 r0 v1 v2 v3 v4 r1 r2 r3 r4 r5 r6 r7 v5 v6 r8 r9 r10 r11 v7 r12 r13 v8 v9 h1 r14 v10 v11 r15 v12 v13 r16 v14 w15 r17 v16 v17 r18 r19 r20 r21 r22 r23 v18 r24 r25 r26 v19 h1 g0 f20)) [0, 1] rfl
        have hD9 := hD.sub (ws' := (wd_5013416a h0 v0 r0 v1 v2 v3 v4 r1 r2 r3 r4 r5 r6 r7 v5 v6 r8 r9 r10 r11 v7 r12 r13 v8 v9 h1 r14 v10 v11 r15 v12 v13 r16 v14 w15 r17 v16 v17 r18 r19 r20 r21 r22 r23 v18 r24 r25 r26 v19 h1 g0 f20)) [0, 1] (by decide) rfl
        have hK9 := hK.sub (tys' := []) [] rfl
        exact W.iret (v := x12) hx hb hr (fun t ht hW => ⟨⟨x12, x12, rfl, rfl, ⟨by first | omega | decide, by first | omega | decide, by intro h9; apply pm_LG.fin (o := h9) <;> first | assumption | omega, by rw [ht]; exact hP9, va_K.moved hW.alike hK9, hD9⟩⟩, hS.F ht⟩) hS.2.2 dX12_largestOn_61
      · skip
        have fc16 : ¬ (8 ≤ x11.toInt) := fun h9 => c16 (Int32.le_iff_toInt_le.mpr h9)
        refine lv_aload_n hx hb dX12_largestOn_10 rfl (lv_at hl 2 rfl) ?_
        refine lv_iload_n hx hb dX12_largestOn_11 rfl (lv_at hl 0 rfl) ?_
        have hPc := hP.sub (ws' := (wd_5013416a h0 v0 r0 v1 v2 v3 v4 r1 r2 r3 r4 r5 r6 r7 v5 v6 r8 r9 r10 r11 v7 r12 r13 v8 v9 h1 r14 v10 v11 r15 v12 v13 r16 v14 w15 r17 v16 v17 r18 r19 r20 r21 r22 r23 v18 r24 r25 r26 v19 h1 g0 f20)) [0, 1] rfl
        have hDc := hD.sub (ws' := (wd_5013416a h0 v0 r0 v1 v2 v3 v4 r1 r2 r3 r4 r5 r6 r7 v5 v6 r8 r9 r10 r11 v7 r12 r13 v8 v9 h1 r14 v10 v11 r15 v12 v13 r16 v14 w15 r17 v16 v17 r18 r19 r20 r21 r22 r23 v18 r24 r25 r26 v19 h1 g0 f20)) [0, 1] (by decide) rfl
        have hKc := hK.sub (tys' := [(g0, .int)]) [0] rfl
        have hFc := va_free (wc := (wd_5013416a h0 v0 r0 v1 v2 v3 v4 r1 r2 r3 r4 r5 r6 r7 v5 v6 r8 r9 r10 r11 v7 r12 r13 v8 v9 h1 r14 v10 v11 r15 v12 v13 r16 v14 w15 r17 v16 v17 r18 r19 r20 r21 r22 r23 v18 r24 r25 r26 v19 h1 g0 f20)) hD hS hA [0, 1] rfl
        refine va_calli (va_runV (As := [.int x11]) (rest := []) ⟨hx, hb, hml, hown, hts⟩ (k_X12_isThere l dC dI h0 h1 v0 r0 v1 v2 v3 v4 r1 r2 r3 r4 r5 r6 r7 v5 v6 r8 r9 r10 r11 v7 r12 r13 v8 v9 r14 v10 v11 r15 v12 v13 r16 v14 w15 r17 v16 v17 r18 r19 r20 r21 r22 r23 v18 r24 r25 r26 v19 g0 f20 x11 ⟨i_v1a, i_v1b⟩ ⟨i_v5a, i_v5b⟩ ⟨i_v6a, i_v6b⟩ ⟨i_v7a, i_v7b⟩ ⟨i_v8a, i_v8b⟩ ⟨i_v9a, i_v9b⟩ ⟨i_v10a, i_v10b⟩ ⟨i_v14a, i_v14b⟩ ⟨i_v18a, i_v18b⟩ ⟨i_v19a, i_v19b⟩ ia_f20.1 H.size) (cwV 1 hts g_X12_largestOn_0 rfl rfl rfl (by decide +kernel) ⟨Nat.le_of_ble_eq_true rfl, Nat.le_of_ble_eq_true rfl⟩) (pv_PV12 hPc hKc hDc (q0 := 0) rfl) rfl rfl hl.1 rfl (lv_room (Nat.le_of_ble_eq_true rfl)) dX12_largestOn_12 ⟨Nat.le_of_ble_eq_true rfl, Nat.le_of_ble_eq_true rfl⟩) hS (fun q _ h => hFc q h) hFc (fun ra17 u t H1 locs ht hvm hwra17 hB hz1 hk1 hS => ?_)
        try rw [hwra17] at hB
        obtain ⟨pt0_ra17, pt1_ra17, pt2_ra17, pt3_ra17, pt4_ra17, pt5_ra17, hP1, hK1, hD1⟩ := hB
        rw [ht] at hP1
        obtain ⟨hP2, hD2⟩ := va_join (wr := []) (w1 := (wd_5013416a h0 v0 r0 v1 v2 v3 v4 r1 r2 r3 r4 r5 r6 r7 v5 v6 r8 r9 r10 r11 v7 r12 r13 v8 v9 h1 r14 v10 v11 r15 v12 v13 r16 v14 w15 r17 v16 v17 r18 r19 r20 r21 r22 r23 v18 r24 r25 r26 v19 h1 g0 f20)) hP hD [0, 1] [] rfl rfl (by decide) (by decide) hk1 hFc hP1 hD1
        clear hP hD hPc hDc hKc hFc hP1 hK1 hD1 hk1 hz1
        generalize H1 = H at hP2 hS ⊢
        have hP : va_P (dC, dI) vwCl (wd_5013416a h0 v0 r0 v1 v2 v3 v4 r1 r2 r3 r4 r5 r6 r7 v5 v6 r8 r9 r10 r11 v7 r12 r13 v8 v9 h1 r14 v10 v11 r15 v12 v13 r16 v14 w15 r17 v16 v17 r18 r19 r20 r21 r22 r23 v18 r24 r25 r26 v19 h1 g0 f20) H := hP2
        have hD : va_D A (wd_5013416a h0 v0 r0 v1 v2 v3 v4 r1 r2 r3 r4 r5 r6 r7 v5 v6 r8 r9 r10 r11 v7 r12 r13 v8 v9 h1 r14 v10 v11 r15 v12 v13 r16 v14 w15 r17 v16 v17 r18 r19 r20 r21 r22 r23 v18 r24 r25 r26 v19 h1 g0 f20) := hD2
        clear hP2 hD2
        have wra17 : ra17.toInt = 0 → ¬ f20 (pm_I x11 7) = 1 := fun h9 => pt5_ra17 h9 (by omega) (by omega)
        refine lv_if_eq (tgt := 52) hx hb dX12_largestOn_15 (by decide) (fun c18 => ?_) (fun c18 => ?_)
        · skip
          have fc18 : ra17.toInt = 0 := congrArg Int32.toInt c18
          have q0wra17 := wra17 (by omega)
          refine lv_iload_n hx hb dX12_largestOn_52 rfl (lv_at hl 1 rfl) ?_
          refine lv_istore_n (lv' := [(2, .int x12), (3, .int x11), (0, .ref h0), (1, .int v21)]) hx hb dX12_largestOn_53 rfl hl (by decide) rfl (fun ls hl => ?_)
          obtain ⟨t19, et19⟩ : ∃ y : Int32, y = x11 + 1 := ⟨_, rfl⟩
          have gt19 : t19.toInt = x11.toInt + (1) := pv_add (a := x11.toInt) (b := (1)) et19 rfl (by decide) (by omega) (by omega)
          refine lv_iinc (v := t19) (lv' := [(3, .int t19), (2, .int x12), (0, .ref h0), (1, .int v21)]) hx hb dX12_largestOn_54 hl (k := 1) rfl (by rw [et19]; rfl) (by decide) rfl (fun ls hl => ?_)
          refine lv_goto (tgt := 4) hx hb dX12_largestOn_57 (by decide) ?_
          exact ih_hL15 t19 x12 H locs ls (by first | omega | decide) (by first | omega | decide) qa_x12 qb_x12 (by first | exact pm_LG.zero (by decide) (by decide) | (apply pm_LG.hit <;> first | assumption | omega) | (apply pm_LG.no <;> first | assumption | omega) | (apply pm_LG.no2 <;> first | assumption | omega) | (apply pm_LG.keep <;> first | assumption | omega)) (by first | omega | (simp only [Int.toNat] at *; omega)) hP hD hS (lv_sub hl [0, 1, 2, 3] rfl)
        · skip
          have fc18 : ¬ (ra17.toInt = 0) := fun h9 => c18 (Int32.toInt_inj.mp h9)
          have q1pt4_ra17 := pt4_ra17 (by omega)
          refine lv_aload_n hx hb dX12_largestOn_18 rfl (lv_at hl 2 rfl) ?_
          refine lv_iload_n hx hb dX12_largestOn_19 rfl (lv_at hl 0 rfl) ?_
          refine lv_iconst (v := 3) hx hb dX12_largestOn_20 (by decide) ?_
          have hPc := hP.sub (ws' := (wd_5013416a h0 v0 r0 v1 v2 v3 v4 r1 r2 r3 r4 r5 r6 r7 v5 v6 r8 r9 r10 r11 v7 r12 r13 v8 v9 h1 r14 v10 v11 r15 v12 v13 r16 v14 w15 r17 v16 v17 r18 r19 r20 r21 r22 r23 v18 r24 r25 r26 v19 h1 g0 f20)) [0, 1] rfl
          have hDc := hD.sub (ws' := (wd_5013416a h0 v0 r0 v1 v2 v3 v4 r1 r2 r3 r4 r5 r6 r7 v5 v6 r8 r9 r10 r11 v7 r12 r13 v8 v9 h1 r14 v10 v11 r15 v12 v13 r16 v14 w15 r17 v16 v17 r18 r19 r20 r21 r22 r23 v18 r24 r25 r26 v19 h1 g0 f20)) [0, 1] (by decide) rfl
          have hKc := hK.sub (tys' := [(g0, .int)]) [0] rfl
          have hFc := va_free (wc := (wd_5013416a h0 v0 r0 v1 v2 v3 v4 r1 r2 r3 r4 r5 r6 r7 v5 v6 r8 r9 r10 r11 v7 r12 r13 v8 v9 h1 r14 v10 v11 r15 v12 v13 r16 v14 w15 r17 v16 v17 r18 r19 r20 r21 r22 r23 v18 r24 r25 r26 v19 h1 g0 f20)) hD hS hA [0, 1] rfl
          refine va_calli (va_runV (As := [.int x11, .int 3]) (rest := []) ⟨hx, hb, hml, hown, hts⟩ (k_X12_of_4 l dC dI h0 h1 v0 r0 v1 v2 v3 v4 r1 r2 r3 r4 r5 r6 r7 v5 v6 r8 r9 r10 r11 v7 r12 r13 v8 v9 r14 v10 v11 r15 v12 v13 r16 v14 w15 r17 v16 v17 r18 r19 r20 r21 r22 r23 v18 r24 r25 r26 v19 g0 f20 x11 ⟨i_v1a, i_v1b⟩ ⟨i_v5a, i_v5b⟩ ⟨i_v6a, i_v6b⟩ ⟨i_v7a, i_v7b⟩ ⟨i_v8a, i_v8b⟩ ⟨i_v9a, i_v9b⟩ ⟨i_v10a, i_v10b⟩ ⟨i_v14a, i_v14b⟩ ⟨i_v18a, i_v18b⟩ ⟨i_v19a, i_v19b⟩ ⟨qa_x11, by first | omega | decide⟩ ia_f20.1 H.size) (cwV 2 hts g_X12_largestOn_1 rfl rfl rfl (by decide +kernel) ⟨Nat.le_of_ble_eq_true rfl, Nat.le_of_ble_eq_true rfl⟩) (pv_PV12 hPc hKc hDc (q0 := 0) rfl) rfl rfl hl.1 rfl (lv_room (Nat.le_of_ble_eq_true rfl)) dX12_largestOn_21 ⟨Nat.le_of_ble_eq_true rfl, Nat.le_of_ble_eq_true rfl⟩) hS (fun q _ h => hFc q h) hFc (fun ra20 u t H1 locs ht hvm hwra20 hB hz1 hk1 hS => ?_)
          try rw [hwra20] at hB
          obtain ⟨pt0_ra20, hP1, hK1, hD1⟩ := hB
          rw [ht] at hP1
          obtain ⟨hP2, hD2⟩ := va_join (wr := []) (w1 := (wd_5013416a h0 v0 r0 v1 v2 v3 v4 r1 r2 r3 r4 r5 r6 r7 v5 v6 r8 r9 r10 r11 v7 r12 r13 v8 v9 h1 r14 v10 v11 r15 v12 v13 r16 v14 w15 r17 v16 v17 r18 r19 r20 r21 r22 r23 v18 r24 r25 r26 v19 h1 g0 f20)) hP hD [0, 1] [] rfl rfl (by decide) (by decide) hk1 hFc hP1 hD1
          clear hP hD hPc hDc hKc hFc hP1 hK1 hD1 hk1 hz1
          generalize H1 = H at hP2 hS ⊢
          have hP : va_P (dC, dI) vwCl (wd_5013416a h0 v0 r0 v1 v2 v3 v4 r1 r2 r3 r4 r5 r6 r7 v5 v6 r8 r9 r10 r11 v7 r12 r13 v8 v9 h1 r14 v10 v11 r15 v12 v13 r16 v14 w15 r17 v16 v17 r18 r19 r20 r21 r22 r23 v18 r24 r25 r26 v19 h1 g0 f20) H := hP2
          have hD : va_D A (wd_5013416a h0 v0 r0 v1 v2 v3 v4 r1 r2 r3 r4 r5 r6 r7 v5 v6 r8 r9 r10 r11 v7 r12 r13 v8 v9 h1 r14 v10 v11 r15 v12 v13 r16 v14 w15 r17 v16 v17 r18 r19 r20 r21 r22 r23 v18 r24 r25 r26 v19 h1 g0 f20) := hD2
          clear hP2 hD2
          refine lv_iload_n hx hb dX12_largestOn_24 rfl (lv_at hl 3 rfl) ?_
          refine lv_icmp_ne (tgt := 52) hx hb dX12_largestOn_25 (by decide) (fun c21 => ?_) (fun c21 => ?_)
          · skip
            have fc21 : ¬ (ra20.toInt = v21.toInt) := fun h9 => c21 (Int32.toInt_inj.mp h9)
            have r1c21 := Int32.toInt_lt ra20
            have r2c21 := Int32.toInt_lt v21
            have r3c21 := Int32.le_toInt ra20
            have r4c21 := Int32.le_toInt v21
            refine lv_iload_n hx hb dX12_largestOn_52 rfl (lv_at hl 1 rfl) ?_
            refine lv_istore_n (lv' := [(2, .int x12), (3, .int x11), (0, .ref h0), (1, .int v21)]) hx hb dX12_largestOn_53 rfl hl (by decide) rfl (fun ls hl => ?_)
            obtain ⟨t22, et22⟩ : ∃ y : Int32, y = x11 + 1 := ⟨_, rfl⟩
            have gt22 : t22.toInt = x11.toInt + (1) := pv_add (a := x11.toInt) (b := (1)) et22 rfl (by decide) (by omega) (by omega)
            refine lv_iinc (v := t22) (lv' := [(3, .int t22), (2, .int x12), (0, .ref h0), (1, .int v21)]) hx hb dX12_largestOn_54 hl (k := 1) rfl (by rw [et22]; rfl) (by decide) rfl (fun ls hl => ?_)
            refine lv_goto (tgt := 4) hx hb dX12_largestOn_57 (by decide) ?_
            exact ih_hL15 t22 x12 H locs ls (by first | omega | decide) (by first | omega | decide) qa_x12 qb_x12 (by first | exact pm_LG.zero (by decide) (by decide) | (apply pm_LG.hit <;> first | assumption | omega) | (apply pm_LG.no <;> first | assumption | omega) | (apply pm_LG.no2 <;> first | assumption | omega) | (apply pm_LG.keep <;> first | assumption | omega)) (by first | omega | (simp only [Int.toNat] at *; omega)) hP hD hS (lv_sub hl [0, 1, 2, 3] rfl)
          · skip
            have fc21 : ra20.toInt = v21.toInt := congrArg Int32.toInt c21
            have r1c21 := Int32.toInt_lt ra20
            have r2c21 := Int32.toInt_lt v21
            have r3c21 := Int32.le_toInt ra20
            have r4c21 := Int32.le_toInt v21
            refine lv_iload_n hx hb dX12_largestOn_28 rfl (lv_at hl 1 rfl) ?_
            refine lv_iconst (v := (-1)) hx hb dX12_largestOn_29 (by decide) ?_
            refine lv_icmp_eq (tgt := 48) hx hb dX12_largestOn_30 (by decide) (fun c23 => ?_) (fun c23 => ?_)
            · skip
              have fc23 : x12.toInt = (-1) := congrArg Int32.toInt c23
              refine lv_iload_n hx hb dX12_largestOn_48 rfl (lv_at hl 0 rfl) ?_
              refine lv_goto (tgt := 53) hx hb dX12_largestOn_49 (by decide) ?_
              refine lv_istore_n (lv' := [(2, .int x11), (3, .int x11), (0, .ref h0), (1, .int v21)]) hx hb dX12_largestOn_53 rfl hl (by decide) rfl (fun ls hl => ?_)
              obtain ⟨t24, et24⟩ : ∃ y : Int32, y = x11 + 1 := ⟨_, rfl⟩
              have gt24 : t24.toInt = x11.toInt + (1) := pv_add (a := x11.toInt) (b := (1)) et24 rfl (by decide) (by omega) (by omega)
              refine lv_iinc (v := t24) (lv' := [(3, .int t24), (2, .int x11), (0, .ref h0), (1, .int v21)]) hx hb dX12_largestOn_54 hl (k := 1) rfl (by rw [et24]; rfl) (by decide) rfl (fun ls hl => ?_)
              refine lv_goto (tgt := 4) hx hb dX12_largestOn_57 (by decide) ?_
              exact ih_hL15 t24 x11 H locs ls (by first | omega | decide) (by first | omega | decide) (by first | omega | decide) (by first | omega | decide) (by first | exact pm_LG.zero (by decide) (by decide) | (apply pm_LG.hit <;> first | assumption | omega) | (apply pm_LG.no <;> first | assumption | omega) | (apply pm_LG.no2 <;> first | assumption | omega) | (apply pm_LG.keep <;> first | assumption | omega)) (by first | omega | (simp only [Int.toNat] at *; omega)) hP hD hS (lv_sub hl [0, 1, 2, 3] rfl)
            · skip
              have fc23 : ¬ (x12.toInt = (-1)) := fun h9 => c23 (Int32.toInt_inj.mp h9)
              refine lv_aload_n hx hb dX12_largestOn_33 rfl (lv_at hl 2 rfl) ?_
              refine lv_iload_n hx hb dX12_largestOn_34 rfl (lv_at hl 0 rfl) ?_
              refine lv_iconst (v := 0) hx hb dX12_largestOn_35 (by decide) ?_
              have hPc := hP.sub (ws' := (wd_5013416a h0 v0 r0 v1 v2 v3 v4 r1 r2 r3 r4 r5 r6 r7 v5 v6 r8 r9 r10 r11 v7 r12 r13 v8 v9 h1 r14 v10 v11 r15 v12 v13 r16 v14 w15 r17 v16 v17 r18 r19 r20 r21 r22 r23 v18 r24 r25 r26 v19 h1 g0 f20)) [0, 1] rfl
              have hDc := hD.sub (ws' := (wd_5013416a h0 v0 r0 v1 v2 v3 v4 r1 r2 r3 r4 r5 r6 r7 v5 v6 r8 r9 r10 r11 v7 r12 r13 v8 v9 h1 r14 v10 v11 r15 v12 v13 r16 v14 w15 r17 v16 v17 r18 r19 r20 r21 r22 r23 v18 r24 r25 r26 v19 h1 g0 f20)) [0, 1] (by decide) rfl
              have hKc := hK.sub (tys' := [(g0, .int)]) [0] rfl
              have hFc := va_free (wc := (wd_5013416a h0 v0 r0 v1 v2 v3 v4 r1 r2 r3 r4 r5 r6 r7 v5 v6 r8 r9 r10 r11 v7 r12 r13 v8 v9 h1 r14 v10 v11 r15 v12 v13 r16 v14 w15 r17 v16 v17 r18 r19 r20 r21 r22 r23 v18 r24 r25 r26 v19 h1 g0 f20)) hD hS hA [0, 1] rfl
              refine va_calli (va_runV (As := [.int x11, .int 0]) (rest := []) ⟨hx, hb, hml, hown, hts⟩ (k_X12_of_3 l dC dI h0 h1 v0 r0 v1 v2 v3 v4 r1 r2 r3 r4 r5 r6 r7 v5 v6 r8 r9 r10 r11 v7 r12 r13 v8 v9 r14 v10 v11 r15 v12 v13 r16 v14 w15 r17 v16 v17 r18 r19 r20 r21 r22 r23 v18 r24 r25 r26 v19 g0 f20 x11 ⟨i_v1a, i_v1b⟩ ⟨i_v5a, i_v5b⟩ ⟨i_v6a, i_v6b⟩ ⟨i_v7a, i_v7b⟩ ⟨i_v8a, i_v8b⟩ ⟨i_v9a, i_v9b⟩ ⟨i_v10a, i_v10b⟩ ⟨i_v14a, i_v14b⟩ ⟨i_v18a, i_v18b⟩ ⟨i_v19a, i_v19b⟩ ⟨qa_x11, by first | omega | decide⟩ ia_f20.1 H.size) (cwV 2 hts g_X12_largestOn_2 rfl rfl rfl (by decide +kernel) ⟨Nat.le_of_ble_eq_true rfl, Nat.le_of_ble_eq_true rfl⟩) (pv_PV12 hPc hKc hDc (q0 := 0) rfl) rfl rfl hl.1 rfl (lv_room (Nat.le_of_ble_eq_true rfl)) dX12_largestOn_36 ⟨Nat.le_of_ble_eq_true rfl, Nat.le_of_ble_eq_true rfl⟩) hS (fun q _ h => hFc q h) hFc (fun ra25 u t H1 locs ht hvm hwra25 hB hz1 hk1 hS => ?_)
              try rw [hwra25] at hB
              obtain ⟨pt0_ra25, pt1_ra25, pt2_ra25, hP1, hK1, hD1⟩ := hB
              rw [ht] at hP1
              obtain ⟨hP2, hD2⟩ := va_join (wr := []) (w1 := (wd_5013416a h0 v0 r0 v1 v2 v3 v4 r1 r2 r3 r4 r5 r6 r7 v5 v6 r8 r9 r10 r11 v7 r12 r13 v8 v9 h1 r14 v10 v11 r15 v12 v13 r16 v14 w15 r17 v16 v17 r18 r19 r20 r21 r22 r23 v18 r24 r25 r26 v19 h1 g0 f20)) hP hD [0, 1] [] rfl rfl (by decide) (by decide) hk1 hFc hP1 hD1
              clear hP hD hPc hDc hKc hFc hP1 hK1 hD1 hk1 hz1
              generalize H1 = H at hP2 hS ⊢
              have hP : va_P (dC, dI) vwCl (wd_5013416a h0 v0 r0 v1 v2 v3 v4 r1 r2 r3 r4 r5 r6 r7 v5 v6 r8 r9 r10 r11 v7 r12 r13 v8 v9 h1 r14 v10 v11 r15 v12 v13 r16 v14 w15 r17 v16 v17 r18 r19 r20 r21 r22 r23 v18 r24 r25 r26 v19 h1 g0 f20) H := hP2
              have hD : va_D A (wd_5013416a h0 v0 r0 v1 v2 v3 v4 r1 r2 r3 r4 r5 r6 r7 v5 v6 r8 r9 r10 r11 v7 r12 r13 v8 v9 h1 r14 v10 v11 r15 v12 v13 r16 v14 w15 r17 v16 v17 r18 r19 r20 r21 r22 r23 v18 r24 r25 r26 v19 h1 g0 f20) := hD2
              clear hP2 hD2
              refine lv_aload_n hx hb dX12_largestOn_39 rfl (lv_at hl 2 rfl) ?_
              refine lv_iload_n hx hb dX12_largestOn_40 rfl (lv_at hl 1 rfl) ?_
              refine lv_iconst (v := 0) hx hb dX12_largestOn_41 (by decide) ?_
              have hPc := hP.sub (ws' := (wd_5013416a h0 v0 r0 v1 v2 v3 v4 r1 r2 r3 r4 r5 r6 r7 v5 v6 r8 r9 r10 r11 v7 r12 r13 v8 v9 h1 r14 v10 v11 r15 v12 v13 r16 v14 w15 r17 v16 v17 r18 r19 r20 r21 r22 r23 v18 r24 r25 r26 v19 h1 g0 f20)) [0, 1] rfl
              have hDc := hD.sub (ws' := (wd_5013416a h0 v0 r0 v1 v2 v3 v4 r1 r2 r3 r4 r5 r6 r7 v5 v6 r8 r9 r10 r11 v7 r12 r13 v8 v9 h1 r14 v10 v11 r15 v12 v13 r16 v14 w15 r17 v16 v17 r18 r19 r20 r21 r22 r23 v18 r24 r25 r26 v19 h1 g0 f20)) [0, 1] (by decide) rfl
              have hKc := hK.sub (tys' := [(g0, .int)]) [0] rfl
              have hFc := va_free (wc := (wd_5013416a h0 v0 r0 v1 v2 v3 v4 r1 r2 r3 r4 r5 r6 r7 v5 v6 r8 r9 r10 r11 v7 r12 r13 v8 v9 h1 r14 v10 v11 r15 v12 v13 r16 v14 w15 r17 v16 v17 r18 r19 r20 r21 r22 r23 v18 r24 r25 r26 v19 h1 g0 f20)) hD hS hA [0, 1] rfl
              refine va_calli (va_runV (As := [.int x12, .int 0]) (rest := [.int ra25]) ⟨hx, hb, hml, hown, hts⟩ (k_X12_of_3 l dC dI h0 h1 v0 r0 v1 v2 v3 v4 r1 r2 r3 r4 r5 r6 r7 v5 v6 r8 r9 r10 r11 v7 r12 r13 v8 v9 r14 v10 v11 r15 v12 v13 r16 v14 w15 r17 v16 v17 r18 r19 r20 r21 r22 r23 v18 r24 r25 r26 v19 g0 f20 x12 ⟨i_v1a, i_v1b⟩ ⟨i_v5a, i_v5b⟩ ⟨i_v6a, i_v6b⟩ ⟨i_v7a, i_v7b⟩ ⟨i_v8a, i_v8b⟩ ⟨i_v9a, i_v9b⟩ ⟨i_v10a, i_v10b⟩ ⟨i_v14a, i_v14b⟩ ⟨i_v18a, i_v18b⟩ ⟨i_v19a, i_v19b⟩ ⟨by first | omega | decide, qb_x12⟩ ia_f20.1 H.size) (cwV 2 hts g_X12_largestOn_2 rfl rfl rfl (by decide +kernel) ⟨Nat.le_of_ble_eq_true rfl, Nat.le_of_ble_eq_true rfl⟩) (pv_PV12 hPc hKc hDc (q0 := 0) rfl) rfl rfl hl.1 rfl (lv_room (Nat.le_of_ble_eq_true rfl)) dX12_largestOn_42 ⟨Nat.le_of_ble_eq_true rfl, Nat.le_of_ble_eq_true rfl⟩) hS (fun q _ h => hFc q h) hFc (fun ra26 u t H1 locs ht hvm hwra26 hB hz1 hk1 hS => ?_)
              try rw [hwra26] at hB
              obtain ⟨pt0_ra26, pt1_ra26, pt2_ra26, hP1, hK1, hD1⟩ := hB
              rw [ht] at hP1
              obtain ⟨hP2, hD2⟩ := va_join (wr := []) (w1 := (wd_5013416a h0 v0 r0 v1 v2 v3 v4 r1 r2 r3 r4 r5 r6 r7 v5 v6 r8 r9 r10 r11 v7 r12 r13 v8 v9 h1 r14 v10 v11 r15 v12 v13 r16 v14 w15 r17 v16 v17 r18 r19 r20 r21 r22 r23 v18 r24 r25 r26 v19 h1 g0 f20)) hP hD [0, 1] [] rfl rfl (by decide) (by decide) hk1 hFc hP1 hD1
              clear hP hD hPc hDc hKc hFc hP1 hK1 hD1 hk1 hz1
              generalize H1 = H at hP2 hS ⊢
              have hP : va_P (dC, dI) vwCl (wd_5013416a h0 v0 r0 v1 v2 v3 v4 r1 r2 r3 r4 r5 r6 r7 v5 v6 r8 r9 r10 r11 v7 r12 r13 v8 v9 h1 r14 v10 v11 r15 v12 v13 r16 v14 w15 r17 v16 v17 r18 r19 r20 r21 r22 r23 v18 r24 r25 r26 v19 h1 g0 f20) H := hP2
              have hD : va_D A (wd_5013416a h0 v0 r0 v1 v2 v3 v4 r1 r2 r3 r4 r5 r6 r7 v5 v6 r8 r9 r10 r11 v7 r12 r13 v8 v9 h1 r14 v10 v11 r15 v12 v13 r16 v14 w15 r17 v16 v17 r18 r19 r20 r21 r22 r23 v18 r24 r25 r26 v19 h1 g0 f20) := hD2
              clear hP2 hD2
              refine lv_icmp_le (tgt := 52) hx hb dX12_largestOn_45 (by decide) (fun c27 => ?_) (fun c27 => ?_)
              · skip
                have fc27 : ra25.toInt ≤ ra26.toInt := Int32.le_iff_toInt_le.mp c27
                have r1c27 := Int32.toInt_lt ra25
                have r2c27 := Int32.toInt_lt ra26
                have r3c27 := Int32.le_toInt ra25
                have r4c27 := Int32.le_toInt ra26
                refine lv_iload_n hx hb dX12_largestOn_52 rfl (lv_at hl 1 rfl) ?_
                refine lv_istore_n (lv' := [(2, .int x12), (3, .int x11), (0, .ref h0), (1, .int v21)]) hx hb dX12_largestOn_53 rfl hl (by decide) rfl (fun ls hl => ?_)
                obtain ⟨t28, et28⟩ : ∃ y : Int32, y = x11 + 1 := ⟨_, rfl⟩
                have gt28 : t28.toInt = x11.toInt + (1) := pv_add (a := x11.toInt) (b := (1)) et28 rfl (by decide) (by omega) (by omega)
                refine lv_iinc (v := t28) (lv' := [(3, .int t28), (2, .int x12), (0, .ref h0), (1, .int v21)]) hx hb dX12_largestOn_54 hl (k := 1) rfl (by rw [et28]; rfl) (by decide) rfl (fun ls hl => ?_)
                refine lv_goto (tgt := 4) hx hb dX12_largestOn_57 (by decide) ?_
                exact ih_hL15 t28 x12 H locs ls (by first | omega | decide) (by first | omega | decide) qa_x12 qb_x12 (by first | exact pm_LG.zero (by decide) (by decide) | (apply pm_LG.hit <;> first | assumption | omega) | (apply pm_LG.no <;> first | assumption | omega) | (apply pm_LG.no2 <;> first | assumption | omega) | (apply pm_LG.keep <;> first | assumption | omega)) (by first | omega | (simp only [Int.toNat] at *; omega)) hP hD hS (lv_sub hl [0, 1, 2, 3] rfl)
              · skip
                have fc27 : ¬ (ra25.toInt ≤ ra26.toInt) := fun h9 => c27 (Int32.le_iff_toInt_le.mpr h9)
                have r1c27 := Int32.toInt_lt ra25
                have r2c27 := Int32.toInt_lt ra26
                have r3c27 := Int32.le_toInt ra25
                have r4c27 := Int32.le_toInt ra26
                refine lv_iload_n hx hb dX12_largestOn_48 rfl (lv_at hl 0 rfl) ?_
                refine lv_goto (tgt := 53) hx hb dX12_largestOn_49 (by decide) ?_
                refine lv_istore_n (lv' := [(2, .int x11), (3, .int x11), (0, .ref h0), (1, .int v21)]) hx hb dX12_largestOn_53 rfl hl (by decide) rfl (fun ls hl => ?_)
                obtain ⟨t29, et29⟩ : ∃ y : Int32, y = x11 + 1 := ⟨_, rfl⟩
                have gt29 : t29.toInt = x11.toInt + (1) := pv_add (a := x11.toInt) (b := (1)) et29 rfl (by decide) (by omega) (by omega)
                refine lv_iinc (v := t29) (lv' := [(3, .int t29), (2, .int x11), (0, .ref h0), (1, .int v21)]) hx hb dX12_largestOn_54 hl (k := 1) rfl (by rw [et29]; rfl) (by decide) rfl (fun ls hl => ?_)
                refine lv_goto (tgt := 4) hx hb dX12_largestOn_57 (by decide) ?_
                exact ih_hL15 t29 x11 H locs ls (by first | omega | decide) (by first | omega | decide) (by first | omega | decide) (by first | omega | decide) (by first | exact pm_LG.zero (by decide) (by decide) | (apply pm_LG.hit <;> first | assumption | omega) | (apply pm_LG.no <;> first | assumption | omega) | (apply pm_LG.no2 <;> first | assumption | omega) | (apply pm_LG.keep <;> first | assumption | omega)) (by first | omega | (simp only [Int.toNat] at *; omega)) hP hD hS (lv_sub hl [0, 1, 2, 3] rfl)
  exact hL15 _ 0 ((-1)) H locs ls (by decide) (by decide) (by decide) (by decide) (by first | exact pm_LG.zero (by decide) (by decide) | (apply pm_LG.hit <;> first | assumption | omega) | (apply pm_LG.no <;> first | assumption | omega) | (apply pm_LG.no2 <;> first | assumption | omega) | (apply pm_LG.keep <;> first | assumption | omega)) (Nat.lt_succ_self _) hP hD hS (lv_sub hl [0, 1, 2, 3] rfl)
def q_X12_set : List Cond := .code yX12_set cX12_set 4 none :: (([.fieldLink RX12 52 "LeftArgumentsModel" "now" "[I"] : List Cond) ++ wsX120)
set_option maxHeartbeats 4000000 in
set_option maxRecDepth 100000 in
theorem k_X12_set (l : Launch) (dC : Nat → ClassId) (dI : Nat → Nat → Nat) (h0 : Nat) (h1 : Nat) (v0 : Int32) (r0 : Nat) (v1 : Int32) (v2 : Int32) (v3 : Int32) (v4 : Int32) (r1 : Nat) (r2 : Nat) (r3 : Nat) (r4 : Nat) (r5 : Nat) (r6 : Nat) (r7 : Nat) (v5 : Int32) (v6 : Int32) (r8 : Nat) (r9 : Nat) (r10 : Nat) (r11 : Nat) (v7 : Int32) (r12 : Nat) (r13 : Nat) (v8 : Int32) (v9 : Int32) (r14 : Nat) (v10 : Int32) (v11 : Int32) (r15 : Nat) (v12 : Int32) (v13 : Int32) (r16 : Nat) (v14 : Int32) (w15 : Int64) (r17 : Nat) (v16 : Int32) (v17 : Int32) (r18 : Nat) (r19 : Nat) (r20 : Nat) (r21 : Nat) (r22 : Nat) (r23 : Nat) (v18 : Int32) (r24 : Nat) (r25 : Nat) (r26 : Nat) (v19 : Int32) (g0 : ClassId) (f20 : Nat → Int32) (v21 : Int32) (v22 : Int32) (i_v1 : 0 ≤ v1.toInt ∧ v1.toInt ≤ 240) (i_v5 : 0 ≤ v5.toInt ∧ v5.toInt ≤ 4) (i_v6 : 0 ≤ v6.toInt ∧ v6.toInt ≤ 4) (i_v7 : 0 ≤ v7.toInt ∧ v7.toInt ≤ 8) (i_v8 : 0 ≤ v8.toInt ∧ v8.toInt ≤ 8) (i_v9 : 0 ≤ v9.toInt ∧ v9.toInt ≤ 1) (i_v10 : -1 ≤ v10.toInt ∧ v10.toInt ≤ 3) (i_v14 : 0 ≤ v14.toInt ∧ v14.toInt ≤ 40) (i_v18 : 0 ≤ v18.toInt ∧ v18.toInt ≤ 10) (i_v19 : 0 ≤ v19.toInt ∧ v19.toInt ≤ 1) (i_v21 : 0 ≤ v21.toInt ∧ v21.toInt ≤ 7) (ia_f20 : (pm_ANY f20)) (sz : Nat) : Met l yX12_set q_X12_set ({ frames := 0, cells := 0, slots := 0, locals := 0 }) (va_Pc [.ref h0, .int v21, .int 7, .int v22] (fun U => U.heap.size = sz ∧ va_P (dC, dI) vwCl (wd_5013416a h0 v0 r0 v1 v2 v3 v4 r1 r2 r3 r4 r5 r6 r7 v5 v6 r8 r9 r10 r11 v7 r12 r13 v8 v9 h1 r14 v10 v11 r15 v12 v13 r16 v14 w15 r17 v16 v17 r18 r19 r20 r21 r22 r23 v18 r24 r25 r26 v19 h1 g0 f20) U.heap ∧ va_K (dC, dI) vwCl [(g0, .int)] U ∧ va_D (fun _ => True) (wd_5013416a h0 v0 r0 v1 v2 v3 v4 r1 r2 r3 r4 r5 r6 r7 v5 v6 r8 r9 r10 r11 v7 r12 r13 v8 v9 h1 r14 v10 v11 r15 v12 v13 r16 v14 w15 r17 v16 v17 r18 r19 r20 r21 r22 r23 v18 r24 r25 r26 v19 h1 g0 f20))) (va_Qv (fun (_ : Unit) => True) (fun (_ : Unit) (t : State) => (va_P (dC, dI) vwCl (wd_5013416a h0 v0 r0 v1 v2 v3 v4 r1 r2 r3 r4 r5 r6 r7 v5 v6 r8 r9 r10 r11 v7 r12 r13 v8 v9 h1 r14 v10 v11 r15 v12 v13 r16 v14 w15 r17 v16 v17 r18 r19 r20 r21 r22 r23 v18 r24 r25 r26 v19 h1 g0 (upd f20 (pm_I v21 7) v22)) t.heap ∧ va_K (dC, dI) vwCl [] t ∧ va_D (va_A (wd_5013416a h0 v0 r0 v1 v2 v3 v4 r1 r2 r3 r4 r5 r6 r7 v5 v6 r8 r9 r10 r11 v7 r12 r13 v8 v9 h1 r14 v10 v11 r15 v12 v13 r16 v14 w15 r17 v16 v17 r18 r19 r20 r21 r22 r23 v18 r24 r25 r26 v19 h1 g0 f20) sz) (wd_5013416a h0 v0 r0 v1 v2 v3 v4 r1 r2 r3 r4 r5 r6 r7 v5 v6 r8 r9 r10 r11 v7 r12 r13 v8 v9 h1 r14 v10 v11 r15 v12 v13 r16 v14 w15 r17 v16 v17 r18 r19 r20 r21 r22 r23 v18 r24 r25 r26 v19 h1 g0 (upd f20 (pm_I v21 7) v22)))) (va_A (wd_5013416a h0 v0 r0 v1 v2 v3 v4 r1 r2 r3 r4 r5 r6 r7 v5 v6 r8 r9 r10 r11 v7 r12 r13 v8 v9 h1 r14 v10 v11 r15 v12 v13 r16 v14 w15 r17 v16 v17 r18 r19 r20 r21 r22 r23 v18 r24 r25 r26 v19 h1 g0 f20) sz)) 0 0 (va_A (wd_5013416a h0 v0 r0 v1 v2 v3 v4 r1 r2 r3 r4 r5 r6 r7 v5 v6 r8 r9 r10 r11 v7 r12 r13 v8 v9 h1 r14 v10 v11 r15 v12 v13 r16 v14 w15 r17 v16 v17 r18 r19 r20 r21 r22 r23 v18 r24 r25 r26 v19 h1 g0 f20) sz) := by
  refine Met.ofW (cc := cX12_set) (maxL := 4) (ret := none) (by decide) rfl ?_
  intro p e s m args below meth c s₁ B hml hv
  obtain ⟨i_v1a, i_v1b⟩ := i_v1
  obtain ⟨i_v5a, i_v5b⟩ := i_v5
  obtain ⟨i_v6a, i_v6b⟩ := i_v6
  obtain ⟨i_v7a, i_v7b⟩ := i_v7
  obtain ⟨i_v8a, i_v8b⟩ := i_v8
  obtain ⟨i_v9a, i_v9b⟩ := i_v9
  obtain ⟨i_v10a, i_v10b⟩ := i_v10
  obtain ⟨i_v14a, i_v14b⟩ := i_v14
  obtain ⟨i_v18a, i_v18b⟩ := i_v18
  obtain ⟨i_v19a, i_v19b⟩ := i_v19
  obtain ⟨i_v21a, i_v21b⟩ := i_v21
  obtain ⟨rfl, hsz, hP, hK, hD0⟩ := hv
  have hx := B.exec
  have hb := B.bytes
  have hr := B.returns
  have hts := atoms_spec (ws := q_X12_set) B.pre
  have hown : s.vm.findClass RX12 = some m.cls := findClass_of_methodNamed B.named
  have hlocks := B.notSynchronized
  subst hsz
  have hD := hD0.self (sz := s.heap.size)
  generalize hAe : va_A (wd_5013416a h0 v0 r0 v1 v2 v3 v4 r1 r2 r3 r4 r5 r6 r7 v5 v6 r8 r9 r10 r11 v7 r12 r13 v8 v9 h1 r14 v10 v11 r15 v12 v13 r16 v14 w15 r17 v16 v17 r18 r19 r20 r21 r22 r23 v18 r24 r25 r26 v19 h1 g0 f20) s.heap.size = A at hD ⊢
  have hA : ∀ q : Nat, s.heap.size ≤ q → A q := fun q h => by rw [← hAe]; exact Or.inr h
  have hS : va_S A s.heap s.heap [] := va_S.rf
  generalize hQ : (MQ below _ _ s 0 0 A) = Q
  have hl := lv_entry ([.ref h0, .int v21, .int 7, .int v22]) (n := 4) (Nat.le_of_ble_eq_true rfl)
  rw [lg_entry_eq]
  generalize (lg_sl ([.ref h0, .int v21, .int 7, .int v22]) ++ List.replicate (4 - (lg_sl ([.ref h0, .int v21, .int 7, .int v22])).length) Slot.unset).toArray = ls at hl ⊢
  have hl : lv_has ls 4 [(0, .ref h0), (1, .int v21), (2, .int 7), (3, .int v22)] := hl
  obtain ⟨H, hH⟩ : ∃ H : Heap, H = s.heap := ⟨_, rfl⟩
  obtain ⟨locs, hlocs⟩ : ∃ y : List Loc, y = [] := ⟨_, rfl⟩
  have hS : va_S A s.heap H locs := by rw [hH, hlocs]; exact va_S.rf
  have hP : va_P (dC, dI) vwCl (wd_5013416a h0 v0 r0 v1 v2 v3 v4 r1 r2 r3 r4 r5 r6 r7 v5 v6 r8 r9 r10 r11 v7 r12 r13 v8 v9 h1 r14 v10 v11 r15 v12 v13 r16 v14 w15 r17 v16 v17 r18 r19 r20 r21 r22 r23 v18 r24 r25 r26 v19 h1 g0 f20) H := by rw [hH]; exact hP
  rw [← hH, ← hlocs]
  refine lv_aload_n hx hb dX12_set_0 rfl (lv_at hl 0 rfl) ?_
  refine va_get (D := (dC, dI)) (ci := 12) (v := .ref h1) (C := RX12) (T := TX12) (N := 48) hx hb hts (fun _ h => List.mem_cons_of_mem _ (List.mem_append_right _ h)) hown hK hP 0 rfl rfl 24 (by decide) (hts (.fieldLink RX12 52 "LeftArgumentsModel" "now" "[I") (List.mem_cons_of_mem _ (List.mem_append_left _ (List.mem_of_getElem? (i := 0) rfl)))) (fun _ h9 => h9) rfl dX12_set_1 ?_
  refine lv_bipush (v := 8) hx hb dX12_set_4 (by decide) ?_
  refine lv_iload_n hx hb dX12_set_6 rfl (lv_at hl 1 rfl) ?_
  refine lv_imul hx hb dX12_set_7 ?_
  refine lv_topi (fun t1 et1 => ?_)
  have gt1 : t1.toInt = 8 * v21.toInt := pv_mul (a := 8) (b := v21.toInt) et1 (by decide) rfl (by omega) (by omega)
  refine lv_iload_n hx hb dX12_set_8 rfl (lv_at hl 2 rfl) ?_
  refine lv_iadd hx hb dX12_set_9 ?_
  refine lv_topi (fun t2 et2 => ?_)
  have gt2 : t2.toInt = t1.toInt + 7 := pv_add (a := t1.toInt) (b := 7) et2 rfl (by decide) (by omega) (by omega)
  refine lv_iload_n hx hb dX12_set_10 rfl (lv_at hl 3 rfl) ?_
  refine va_iast hx hb hK hP hD hS 1 0 rfl rfl (vp_in_iff.mpr ⟨by omega, by omega⟩) dX12_set_11 (fun H locs hP hD hS => ?_)
  obtain ⟨fn3, efn3⟩ : ∃ g : Nat → Int32, g = upd f20 (Int32.toNatClampNeg t2) v22 := ⟨_, rfl⟩
  rw [← efn3] at hP hD
  have ia_fn3 : pm_ANY fn3 := trivial
  have hP : va_P (dC, dI) vwCl (wd_5013416a h0 v0 r0 v1 v2 v3 v4 r1 r2 r3 r4 r5 r6 r7 v5 v6 r8 r9 r10 r11 v7 r12 r13 v8 v9 h1 r14 v10 v11 r15 v12 v13 r16 v14 w15 r17 v16 v17 r18 r19 r20 r21 r22 r23 v18 r24 r25 r26 v19 h1 g0 fn3) H := hP
  have hD : va_D A (wd_5013416a h0 v0 r0 v1 v2 v3 v4 r1 r2 r3 r4 r5 r6 r7 v5 v6 r8 r9 r10 r11 v7 r12 r13 v8 v9 h1 r14 v10 v11 r15 v12 v13 r16 v14 w15 r17 v16 v17 r18 r19 r20 r21 r22 r23 v18 r24 r25 r26 v19 h1 g0 fn3) := hD
  subst hQ
  have e9 : fn3 = (upd f20 (pm_I v21 7) v22) := by subst_vars; rfl
  rw [e9] at hP hD
  have hP9 := hP.sub (ws' := (wd_5013416a h0 v0 r0 v1 v2 v3 v4 r1 r2 r3 r4 r5 r6 r7 v5 v6 r8 r9 r10 r11 v7 r12 r13 v8 v9 h1 r14 v10 v11 r15 v12 v13 r16 v14 w15 r17 v16 v17 r18 r19 r20 r21 r22 r23 v18 r24 r25 r26 v19 h1 g0 (upd f20 (pm_I v21 7) v22))) [0, 1] rfl
  have hD9 := hD.sub (ws' := (wd_5013416a h0 v0 r0 v1 v2 v3 v4 r1 r2 r3 r4 r5 r6 r7 v5 v6 r8 r9 r10 r11 v7 r12 r13 v8 v9 h1 r14 v10 v11 r15 v12 v13 r16 v14 w15 r17 v16 v17 r18 r19 r20 r21 r22 r23 v18 r24 r25 r26 v19 h1 g0 (upd f20 (pm_I v21 7) v22))) [0, 1] (by decide) rfl
  have hK9 := hK.sub (tys' := []) [] rfl
  exact W.vret hx hb hr (fun t ht hW => ⟨⟨(), rfl, trivial, ⟨by rw [ht]; exact hP9, va_K.moved hW.alike hK9, hD9⟩⟩, hS.F ht⟩) hS.2.2 dX12_set_12
def q_X12_endAll : List Cond := .code yX12_endAll cX12_endAll 2 none :: (([.fieldLink RX12 306 "LeftArgumentsModel" "ended" "I", .code yX12_isThere cX12_isThere 2 (some .boolean), .code yX12_in cX12_in 3 (some .boolean), .initialized RX12, .static yX12_in, .methodLink RX12 217 yX12_in, .code yX12_of cX12_of 3 (some .int), .fieldLink RX12 52 "LeftArgumentsModel" "now" "[I", .instanceMethod yX12_of, .selects RX12 yX12_of yX12_of, .methodLink RX12 287 yX12_of, .instanceMethod yX12_isThere, .selects RX12 yX12_isThere yX12_isThere, .methodLink RX12 290 yX12_isThere, .code yX12_set cX12_set 4 none, .instanceMethod yX12_set, .selects RX12 yX12_set yX12_set, .methodLink RX12 258 yX12_set] : List Cond) ++ wsX120)
set_option maxRecDepth 20000 in
theorem g_X12_endAll_0 : GoodIn q_X12_endAll (wsV RX12 290 RX12 yX12_isThere q_X12_isThere) := goodIn_app (goodIn_r _ [14, 12, 13, 4] rfl (by decide +kernel)) (goodIn_ca (goodIn_r (.code yX12_isThere cX12_isThere 2 (some .boolean) :: [.code yX12_in cX12_in 3 (some .boolean), .initialized RX12, .static yX12_in, .methodLink RX12 217 yX12_in, .code yX12_of cX12_of 3 (some .int), .fieldLink RX12 52 "LeftArgumentsModel" "now" "[I", .instanceMethod yX12_of, .selects RX12 yX12_of yX12_of, .methodLink RX12 287 yX12_of]) [2, 3, 4, 5, 6, 7, 8, 9, 10, 11] rfl (by decide +kernel)) (goodIn_sub (fun _ h => List.mem_cons_of_mem _ (List.mem_append_right _ h)) gwX12))
set_option maxRecDepth 20000 in
theorem g_X12_endAll_1 : GoodIn q_X12_endAll (wsV RX12 287 RX12 yX12_of q_X12_of_3) := goodIn_app (goodIn_r _ [11, 9, 10, 4] rfl (by decide +kernel)) (goodIn_ca (goodIn_r (.code yX12_of cX12_of 3 (some .int) :: [.fieldLink RX12 52 "LeftArgumentsModel" "now" "[I"]) [7, 8] rfl (by decide +kernel)) (goodIn_sub (fun _ h => List.mem_cons_of_mem _ (List.mem_append_right _ h)) gwX12))
set_option maxRecDepth 20000 in
theorem g_X12_endAll_2 : GoodIn q_X12_endAll (wsV RX12 258 RX12 yX12_set q_X12_set) := goodIn_app (goodIn_r _ [18, 16, 17, 4] rfl (by decide +kernel)) (goodIn_ca (goodIn_r (.code yX12_set cX12_set 4 none :: [.fieldLink RX12 52 "LeftArgumentsModel" "now" "[I"]) [15, 8] rfl (by decide +kernel)) (goodIn_sub (fun _ h => List.mem_cons_of_mem _ (List.mem_append_right _ h)) gwX12))
set_option maxHeartbeats 4000000 in
set_option maxRecDepth 100000 in
theorem k_X12_endAll (l : Launch) (dC : Nat → ClassId) (dI : Nat → Nat → Nat) (h0 : Nat) (h1 : Nat) (v0 : Int32) (r0 : Nat) (v1 : Int32) (v2 : Int32) (v3 : Int32) (v4 : Int32) (r1 : Nat) (r2 : Nat) (r3 : Nat) (r4 : Nat) (r5 : Nat) (r6 : Nat) (r7 : Nat) (v5 : Int32) (v6 : Int32) (r8 : Nat) (r9 : Nat) (r10 : Nat) (r11 : Nat) (v7 : Int32) (r12 : Nat) (r13 : Nat) (v8 : Int32) (v9 : Int32) (r14 : Nat) (v10 : Int32) (v11 : Int32) (r15 : Nat) (v12 : Int32) (v13 : Int32) (r16 : Nat) (v14 : Int32) (w15 : Int64) (r17 : Nat) (v16 : Int32) (v17 : Int32) (r18 : Nat) (r19 : Nat) (r20 : Nat) (r21 : Nat) (r22 : Nat) (r23 : Nat) (v18 : Int32) (r24 : Nat) (r25 : Nat) (r26 : Nat) (v19 : Int32) (g0 : ClassId) (f20 : Nat → Int32) (i_v1 : 0 ≤ v1.toInt ∧ v1.toInt ≤ 240) (i_v5 : 0 ≤ v5.toInt ∧ v5.toInt ≤ 4) (i_v6 : 0 ≤ v6.toInt ∧ v6.toInt ≤ 4) (i_v7 : 0 ≤ v7.toInt ∧ v7.toInt ≤ 8) (i_v8 : 0 ≤ v8.toInt ∧ v8.toInt ≤ 8) (i_v9 : 0 ≤ v9.toInt ∧ v9.toInt ≤ 1) (i_v10 : -1 ≤ v10.toInt ∧ v10.toInt ≤ 3) (i_v14 : 0 ≤ v14.toInt ∧ v14.toInt ≤ 40) (i_v18 : 0 ≤ v18.toInt ∧ v18.toInt ≤ 10) (i_v19 : 0 ≤ v19.toInt ∧ v19.toInt ≤ 1) (ia_f20 : (pm_NW0 f20)) (sz : Nat) : Met l yX12_endAll q_X12_endAll ({ frames := 2, cells := 0, slots := 0, locals := 43 }) (va_Pc [.ref h0] (fun U => U.heap.size = sz ∧ va_P (dC, dI) vwCl (wd_5013416a h0 v0 r0 v1 v2 v3 v4 r1 r2 r3 r4 r5 r6 r7 v5 v6 r8 r9 r10 r11 v7 r12 r13 v8 v9 h1 r14 v10 v11 r15 v12 v13 r16 v14 w15 r17 v16 v17 r18 r19 r20 r21 r22 r23 v18 r24 r25 r26 v19 h1 g0 f20) U.heap ∧ va_K (dC, dI) vwCl [(g0, .int)] U ∧ va_D (fun _ => True) (wd_5013416a h0 v0 r0 v1 v2 v3 v4 r1 r2 r3 r4 r5 r6 r7 v5 v6 r8 r9 r10 r11 v7 r12 r13 v8 v9 h1 r14 v10 v11 r15 v12 v13 r16 v14 w15 r17 v16 v17 r18 r19 r20 r21 r22 r23 v18 r24 r25 r26 v19 h1 g0 f20))) (va_Qv (fun (_ : Unit) => True) (fun (_ : Unit) (t : State) => (∃ (o_h0_30 : Int32) (o_h1 : Nat → Int32), (pm_NW o_h1) ∧ va_P (dC, dI) vwCl (wd_5013416a h0 v0 r0 v1 v2 v3 v4 r1 r2 r3 r4 r5 r6 r7 v5 v6 r8 r9 r10 r11 v7 r12 r13 v8 v9 h1 r14 v10 v11 r15 v12 o_h0_30 r16 v14 w15 r17 v16 v17 r18 r19 r20 r21 r22 r23 v18 r24 r25 r26 v19 h1 g0 o_h1) t.heap ∧ va_K (dC, dI) vwCl [] t ∧ va_D (va_A (wd_5013416a h0 v0 r0 v1 v2 v3 v4 r1 r2 r3 r4 r5 r6 r7 v5 v6 r8 r9 r10 r11 v7 r12 r13 v8 v9 h1 r14 v10 v11 r15 v12 v13 r16 v14 w15 r17 v16 v17 r18 r19 r20 r21 r22 r23 v18 r24 r25 r26 v19 h1 g0 f20) sz) (wd_5013416a h0 v0 r0 v1 v2 v3 v4 r1 r2 r3 r4 r5 r6 r7 v5 v6 r8 r9 r10 r11 v7 r12 r13 v8 v9 h1 r14 v10 v11 r15 v12 o_h0_30 r16 v14 w15 r17 v16 v17 r18 r19 r20 r21 r22 r23 v18 r24 r25 r26 v19 h1 g0 o_h1))) (va_A (wd_5013416a h0 v0 r0 v1 v2 v3 v4 r1 r2 r3 r4 r5 r6 r7 v5 v6 r8 r9 r10 r11 v7 r12 r13 v8 v9 h1 r14 v10 v11 r15 v12 v13 r16 v14 w15 r17 v16 v17 r18 r19 r20 r21 r22 r23 v18 r24 r25 r26 v19 h1 g0 f20) sz)) 0 0 (va_A (wd_5013416a h0 v0 r0 v1 v2 v3 v4 r1 r2 r3 r4 r5 r6 r7 v5 v6 r8 r9 r10 r11 v7 r12 r13 v8 v9 h1 r14 v10 v11 r15 v12 v13 r16 v14 w15 r17 v16 v17 r18 r19 r20 r21 r22 r23 v18 r24 r25 r26 v19 h1 g0 f20) sz) := by
  refine Met.ofW (cc := cX12_endAll) (maxL := 2) (ret := none) (by decide) rfl ?_
  intro p e s m args below meth c s₁ B hml hv
  obtain ⟨i_v1a, i_v1b⟩ := i_v1
  obtain ⟨i_v5a, i_v5b⟩ := i_v5
  obtain ⟨i_v6a, i_v6b⟩ := i_v6
  obtain ⟨i_v7a, i_v7b⟩ := i_v7
  obtain ⟨i_v8a, i_v8b⟩ := i_v8
  obtain ⟨i_v9a, i_v9b⟩ := i_v9
  obtain ⟨i_v10a, i_v10b⟩ := i_v10
  obtain ⟨i_v14a, i_v14b⟩ := i_v14
  obtain ⟨i_v18a, i_v18b⟩ := i_v18
  obtain ⟨i_v19a, i_v19b⟩ := i_v19
  obtain ⟨rfl, hsz, hP, hK, hD0⟩ := hv
  have hx := B.exec
  have hb := B.bytes
  have hr := B.returns
  have hts := atoms_spec (ws := q_X12_endAll) B.pre
  have hown : s.vm.findClass RX12 = some m.cls := findClass_of_methodNamed B.named
  have hlocks := B.notSynchronized
  subst hsz
  have hD := hD0.self (sz := s.heap.size)
  generalize hAe : va_A (wd_5013416a h0 v0 r0 v1 v2 v3 v4 r1 r2 r3 r4 r5 r6 r7 v5 v6 r8 r9 r10 r11 v7 r12 r13 v8 v9 h1 r14 v10 v11 r15 v12 v13 r16 v14 w15 r17 v16 v17 r18 r19 r20 r21 r22 r23 v18 r24 r25 r26 v19 h1 g0 f20) s.heap.size = A at hD ⊢
  have hA : ∀ q : Nat, s.heap.size ≤ q → A q := fun q h => by rw [← hAe]; exact Or.inr h
  have hS : va_S A s.heap s.heap [] := va_S.rf
  generalize hQ : (MQ below _ _ s 0 0 A) = Q
  have hl := lv_entry ([.ref h0]) (n := 2) (Nat.le_of_ble_eq_true rfl)
  rw [lg_entry_eq]
  generalize (lg_sl ([.ref h0]) ++ List.replicate (2 - (lg_sl ([.ref h0])).length) Slot.unset).toArray = ls at hl ⊢
  have hl : lv_has ls 2 [(0, .ref h0)] := hl
  obtain ⟨H, hH⟩ : ∃ H : Heap, H = s.heap := ⟨_, rfl⟩
  obtain ⟨locs, hlocs⟩ : ∃ y : List Loc, y = [] := ⟨_, rfl⟩
  have hS : va_S A s.heap H locs := by rw [hH, hlocs]; exact va_S.rf
  have hP : va_P (dC, dI) vwCl (wd_5013416a h0 v0 r0 v1 v2 v3 v4 r1 r2 r3 r4 r5 r6 r7 v5 v6 r8 r9 r10 r11 v7 r12 r13 v8 v9 h1 r14 v10 v11 r15 v12 v13 r16 v14 w15 r17 v16 v17 r18 r19 r20 r21 r22 r23 v18 r24 r25 r26 v19 h1 g0 f20) H := by rw [hH]; exact hP
  rw [← hH, ← hlocs]
  refine lv_aload_n hx hb dX12_endAll_0 rfl (lv_at hl 0 rfl) ?_
  refine lv_iconst (v := 0) hx hb dX12_endAll_1 (by decide) ?_
  refine va_put (D := (dC, dI)) (ci := 12) (v := .int 0) (ty := .int) (C := RX12) (T := TX12) (N := 48) hx hb hts (fun _ h => List.mem_cons_of_mem _ (List.mem_append_right _ h)) tyX12 tyX12_ok nmX12 hown hK hP hD hS 0 rfl rfl 30 (by decide) (hts (.fieldLink RX12 306 "LeftArgumentsModel" "ended" "I") (List.mem_cons_of_mem _ (List.mem_append_left _ (List.mem_of_getElem? (i := 0) rfl)))) (fun _ h9 => h9) rfl (by decide +kernel) rfl rfl (Nat.le_of_ble_eq_true rfl) dX12_endAll_2 (fun H locs hP hD hS => ?_)
  have hP : va_P (dC, dI) vwCl (wd_5013416a h0 v0 r0 v1 v2 v3 v4 r1 r2 r3 r4 r5 r6 r7 v5 v6 r8 r9 r10 r11 v7 r12 r13 v8 v9 h1 r14 v10 v11 r15 v12 0 r16 v14 w15 r17 v16 v17 r18 r19 r20 r21 r22 r23 v18 r24 r25 r26 v19 h1 g0 f20) H := hP
  have hD : va_D A (wd_5013416a h0 v0 r0 v1 v2 v3 v4 r1 r2 r3 r4 r5 r6 r7 v5 v6 r8 r9 r10 r11 v7 r12 r13 v8 v9 h1 r14 v10 v11 r15 v12 0 r16 v14 w15 r17 v16 v17 r18 r19 r20 r21 r22 r23 v18 r24 r25 r26 v19 h1 g0 f20) := hD
  refine lv_iconst (v := 0) hx hb dX12_endAll_5 (by decide) ?_
  refine lv_istore_n (lv' := [(1, .int 0), (0, .ref h0)]) hx hb dX12_endAll_6 rfl hl (by decide) rfl (fun ls hl => ?_)
  have hL19 : ∀ (n9 : Nat), ∀ (x13 : Int32) (x14 : Int32) (fn15 : Nat → Int32) (H : Heap) (locs : List Loc) (ls : Array Slot), 0 ≤ x13.toInt → x13.toInt ≤ 8 → (pm_NW0 fn15) → (pm_TS fn15 x13.toInt.toNat) → (8 - x13.toInt).toNat < n9 → va_P (dC, dI) vwCl (wd_5013416a h0 v0 r0 v1 v2 v3 v4 r1 r2 r3 r4 r5 r6 r7 v5 v6 r8 r9 r10 r11 v7 r12 r13 v8 v9 h1 r14 v10 v11 r15 v12 x14 r16 v14 w15 r17 v16 v17 r18 r19 r20 r21 r22 r23 v18 r24 r25 r26 v19 h1 g0 fn15) H → va_D A (wd_5013416a h0 v0 r0 v1 v2 v3 v4 r1 r2 r3 r4 r5 r6 r7 v5 v6 r8 r9 r10 r11 v7 r12 r13 v8 v9 h1 r14 v10 v11 r15 v12 x14 r16 v14 w15 r17 v16 v17 r18 r19 r20 r21 r22 r23 v18 r24 r25 r26 v19 h1 g0 fn15) → va_S A s.heap H locs → lv_has ls 2 [(1, .int x13), (0, .ref h0)] → W p l e ({ frames := 2, cells := 0, slots := 0, locals := 43 }) s m ([.ref h0] : List Value).toArray below meth c H locs 0 0 Q (F0 m 7 ls []) := by
    intro n9
    induction n9 with
    | zero => intro x13 x14 fn15 H locs ls qa_x13 qb_x13 ia_fn15 gh0_hL19 hm9 hP hD hS hl; exact absurd hm9 (Nat.not_lt_zero _)
    | succ n9 ih_hL19 =>
      intro x13 x14 fn15 H locs ls qa_x13 qb_x13 ia_fn15 gh0_hL19 hm9 hP hD hS hl
      refine lv_iload_n hx hb dX12_endAll_7 rfl (lv_at hl 0 rfl) ?_
      refine lv_bipush (v := 8) hx hb dX12_endAll_8 (by decide) ?_
      refine lv_icmp_ge (tgt := 56) hx hb dX12_endAll_10 (by decide) (fun c20 => ?_) (fun c20 => ?_)
      · skip
        have fc20 : 8 ≤ x13.toInt := Int32.le_iff_toInt_le.mp c20
        subst hQ
        have ia_fn15 : pm_NW fn15 := by apply pm_TS.all (n := x13.toInt.toNat) <;> first | assumption | exact ia_fn15 | omega
        have hP9 := hP.sub (ws' := (wd_5013416a h0 v0 r0 v1 v2 v3 v4 r1 r2 r3 r4 r5 r6 r7 v5 v6 r8 r9 r10 r11 v7 r12 r13 v8 v9 h1 r14 v10 v11 r15 v12 x14 r16 v14 w15 r17 v16 v17 r18 r19 r20 r21 r22 r23 v18 r24 r25 r26 v19 h1 g0 fn15)) [0, 1] rfl
        have hD9 := hD.sub (ws' := (wd_5013416a h0 v0 r0 v1 v2 v3 v4 r1 r2 r3 r4 r5 r6 r7 v5 v6 r8 r9 r10 r11 v7 r12 r13 v8 v9 h1 r14 v10 v11 r15 v12 x14 r16 v14 w15 r17 v16 v17 r18 r19 r20 r21 r22 r23 v18 r24 r25 r26 v19 h1 g0 fn15)) [0, 1] (by decide) rfl
        have hK9 := hK.sub (tys' := []) [] rfl
        exact W.vret hx hb hr (fun t ht hW => ⟨⟨(), rfl, trivial, ⟨x14, fn15, ia_fn15, by rw [ht]; exact hP9, va_K.moved hW.alike hK9, hD9⟩⟩, hS.F ht⟩) hS.2.2 dX12_endAll_56
      · skip
        have fc20 : ¬ (8 ≤ x13.toInt) := fun h9 => c20 (Int32.le_iff_toInt_le.mpr h9)
        refine lv_aload_n hx hb dX12_endAll_13 rfl (lv_at hl 1 rfl) ?_
        refine lv_iload_n hx hb dX12_endAll_14 rfl (lv_at hl 0 rfl) ?_
        have hPc := hP.sub (ws' := (wd_5013416a h0 v0 r0 v1 v2 v3 v4 r1 r2 r3 r4 r5 r6 r7 v5 v6 r8 r9 r10 r11 v7 r12 r13 v8 v9 h1 r14 v10 v11 r15 v12 x14 r16 v14 w15 r17 v16 v17 r18 r19 r20 r21 r22 r23 v18 r24 r25 r26 v19 h1 g0 fn15)) [0, 1] rfl
        have hDc := hD.sub (ws' := (wd_5013416a h0 v0 r0 v1 v2 v3 v4 r1 r2 r3 r4 r5 r6 r7 v5 v6 r8 r9 r10 r11 v7 r12 r13 v8 v9 h1 r14 v10 v11 r15 v12 x14 r16 v14 w15 r17 v16 v17 r18 r19 r20 r21 r22 r23 v18 r24 r25 r26 v19 h1 g0 fn15)) [0, 1] (by decide) rfl
        have hKc := hK.sub (tys' := [(g0, .int)]) [0] rfl
        have hFc := va_free (wc := (wd_5013416a h0 v0 r0 v1 v2 v3 v4 r1 r2 r3 r4 r5 r6 r7 v5 v6 r8 r9 r10 r11 v7 r12 r13 v8 v9 h1 r14 v10 v11 r15 v12 x14 r16 v14 w15 r17 v16 v17 r18 r19 r20 r21 r22 r23 v18 r24 r25 r26 v19 h1 g0 fn15)) hD hS hA [0, 1] rfl
        refine va_calli (va_runV (As := [.int x13]) (rest := []) ⟨hx, hb, hml, hown, hts⟩ (k_X12_isThere l dC dI h0 h1 v0 r0 v1 v2 v3 v4 r1 r2 r3 r4 r5 r6 r7 v5 v6 r8 r9 r10 r11 v7 r12 r13 v8 v9 r14 v10 v11 r15 v12 x14 r16 v14 w15 r17 v16 v17 r18 r19 r20 r21 r22 r23 v18 r24 r25 r26 v19 g0 fn15 x13 ⟨i_v1a, i_v1b⟩ ⟨i_v5a, i_v5b⟩ ⟨i_v6a, i_v6b⟩ ⟨i_v7a, i_v7b⟩ ⟨i_v8a, i_v8b⟩ ⟨i_v9a, i_v9b⟩ ⟨i_v10a, i_v10b⟩ ⟨i_v14a, i_v14b⟩ ⟨i_v18a, i_v18b⟩ ⟨i_v19a, i_v19b⟩ ia_fn15 H.size) (cwV 1 hts g_X12_endAll_0 rfl rfl rfl (by decide +kernel) ⟨Nat.le_of_ble_eq_true rfl, Nat.le_of_ble_eq_true rfl⟩) (pv_PV12 hPc hKc hDc (q0 := 0) rfl) rfl rfl hl.1 rfl (lv_room (Nat.le_of_ble_eq_true rfl)) dX12_endAll_15 ⟨Nat.le_of_ble_eq_true rfl, Nat.le_of_ble_eq_true rfl⟩) hS (fun q _ h => hFc q h) hFc (fun ra21 u t H1 locs ht hvm hwra21 hB hz1 hk1 hS => ?_)
        try rw [hwra21] at hB
        obtain ⟨pt0_ra21, pt1_ra21, pt2_ra21, pt3_ra21, pt4_ra21, pt5_ra21, hP1, hK1, hD1⟩ := hB
        rw [ht] at hP1
        obtain ⟨hP2, hD2⟩ := va_join (wr := []) (w1 := (wd_5013416a h0 v0 r0 v1 v2 v3 v4 r1 r2 r3 r4 r5 r6 r7 v5 v6 r8 r9 r10 r11 v7 r12 r13 v8 v9 h1 r14 v10 v11 r15 v12 x14 r16 v14 w15 r17 v16 v17 r18 r19 r20 r21 r22 r23 v18 r24 r25 r26 v19 h1 g0 fn15)) hP hD [0, 1] [] rfl rfl (by decide) (by decide) hk1 hFc hP1 hD1
        clear hP hD hPc hDc hKc hFc hP1 hK1 hD1 hk1 hz1
        generalize H1 = H at hP2 hS ⊢
        have hP : va_P (dC, dI) vwCl (wd_5013416a h0 v0 r0 v1 v2 v3 v4 r1 r2 r3 r4 r5 r6 r7 v5 v6 r8 r9 r10 r11 v7 r12 r13 v8 v9 h1 r14 v10 v11 r15 v12 x14 r16 v14 w15 r17 v16 v17 r18 r19 r20 r21 r22 r23 v18 r24 r25 r26 v19 h1 g0 fn15) H := hP2
        have hD : va_D A (wd_5013416a h0 v0 r0 v1 v2 v3 v4 r1 r2 r3 r4 r5 r6 r7 v5 v6 r8 r9 r10 r11 v7 r12 r13 v8 v9 h1 r14 v10 v11 r15 v12 x14 r16 v14 w15 r17 v16 v17 r18 r19 r20 r21 r22 r23 v18 r24 r25 r26 v19 h1 g0 fn15) := hD2
        clear hP2 hD2
        have wra21 : ra21.toInt = 0 → ¬ fn15 (pm_I x13 7) = 1 := fun h9 => pt5_ra21 h9 (by omega) (by omega)
        refine lv_if_eq (tgt := 50) hx hb dX12_endAll_18 (by decide) (fun c22 => ?_) (fun c22 => ?_)
        · skip
          have fc22 : ra21.toInt = 0 := congrArg Int32.toInt c22
          have q0wra21 := wra21 (by omega)
          obtain ⟨t23, et23⟩ : ∃ y : Int32, y = x13 + 1 := ⟨_, rfl⟩
          have gt23 : t23.toInt = x13.toInt + (1) := pv_add (a := x13.toInt) (b := (1)) et23 rfl (by decide) (by omega) (by omega)
          refine lv_iinc (v := t23) (lv' := [(1, .int t23), (0, .ref h0)]) hx hb dX12_endAll_50 hl (k := 0) rfl (by rw [et23]; rfl) (by decide) rfl (fun ls hl => ?_)
          refine lv_goto (tgt := 7) hx hb dX12_endAll_53 (by decide) ?_
          exact ih_hL19 t23 x14 fn15 H locs ls (by first | omega | decide) (by first | omega | decide) ia_fn15 (by first | exact pm_TS.zero (by decide) | (apply pm_TS.skip <;> first | assumption | omega) | (apply pm_TS.off <;> first | assumption | omega) | (apply pm_TS.full <;> first | assumption | omega)) (by first | omega | (simp only [Int.toNat] at *; omega)) hP hD hS (lv_sub hl [0, 1] rfl)
        · skip
          have fc22 : ¬ (ra21.toInt = 0) := fun h9 => c22 (Int32.toInt_inj.mp h9)
          have q1pt4_ra21 := pt4_ra21 (by omega)
          refine lv_aload_n hx hb dX12_endAll_21 rfl (lv_at hl 1 rfl) ?_
          refine lv_iload_n hx hb dX12_endAll_22 rfl (lv_at hl 0 rfl) ?_
          refine lv_iconst (v := 0) hx hb dX12_endAll_23 (by decide) ?_
          have hPc := hP.sub (ws' := (wd_5013416a h0 v0 r0 v1 v2 v3 v4 r1 r2 r3 r4 r5 r6 r7 v5 v6 r8 r9 r10 r11 v7 r12 r13 v8 v9 h1 r14 v10 v11 r15 v12 x14 r16 v14 w15 r17 v16 v17 r18 r19 r20 r21 r22 r23 v18 r24 r25 r26 v19 h1 g0 fn15)) [0, 1] rfl
          have hDc := hD.sub (ws' := (wd_5013416a h0 v0 r0 v1 v2 v3 v4 r1 r2 r3 r4 r5 r6 r7 v5 v6 r8 r9 r10 r11 v7 r12 r13 v8 v9 h1 r14 v10 v11 r15 v12 x14 r16 v14 w15 r17 v16 v17 r18 r19 r20 r21 r22 r23 v18 r24 r25 r26 v19 h1 g0 fn15)) [0, 1] (by decide) rfl
          have hKc := hK.sub (tys' := [(g0, .int)]) [0] rfl
          have hFc := va_free (wc := (wd_5013416a h0 v0 r0 v1 v2 v3 v4 r1 r2 r3 r4 r5 r6 r7 v5 v6 r8 r9 r10 r11 v7 r12 r13 v8 v9 h1 r14 v10 v11 r15 v12 x14 r16 v14 w15 r17 v16 v17 r18 r19 r20 r21 r22 r23 v18 r24 r25 r26 v19 h1 g0 fn15)) hD hS hA [0, 1] rfl
          refine va_calli (va_runV (As := [.int x13, .int 0]) (rest := []) ⟨hx, hb, hml, hown, hts⟩ (k_X12_of_3 l dC dI h0 h1 v0 r0 v1 v2 v3 v4 r1 r2 r3 r4 r5 r6 r7 v5 v6 r8 r9 r10 r11 v7 r12 r13 v8 v9 r14 v10 v11 r15 v12 x14 r16 v14 w15 r17 v16 v17 r18 r19 r20 r21 r22 r23 v18 r24 r25 r26 v19 g0 fn15 x13 ⟨i_v1a, i_v1b⟩ ⟨i_v5a, i_v5b⟩ ⟨i_v6a, i_v6b⟩ ⟨i_v7a, i_v7b⟩ ⟨i_v8a, i_v8b⟩ ⟨i_v9a, i_v9b⟩ ⟨i_v10a, i_v10b⟩ ⟨i_v14a, i_v14b⟩ ⟨i_v18a, i_v18b⟩ ⟨i_v19a, i_v19b⟩ ⟨qa_x13, by first | omega | decide⟩ ia_fn15 H.size) (cwV 2 hts g_X12_endAll_1 rfl rfl rfl (by decide +kernel) ⟨Nat.le_of_ble_eq_true rfl, Nat.le_of_ble_eq_true rfl⟩) (pv_PV12 hPc hKc hDc (q0 := 0) rfl) rfl rfl hl.1 rfl (lv_room (Nat.le_of_ble_eq_true rfl)) dX12_endAll_24 ⟨Nat.le_of_ble_eq_true rfl, Nat.le_of_ble_eq_true rfl⟩) hS (fun q _ h => hFc q h) hFc (fun ra24 u t H1 locs ht hvm hwra24 hB hz1 hk1 hS => ?_)
          try rw [hwra24] at hB
          obtain ⟨pt0_ra24, pt1_ra24, pt2_ra24, hP1, hK1, hD1⟩ := hB
          rw [ht] at hP1
          obtain ⟨hP2, hD2⟩ := va_join (wr := []) (w1 := (wd_5013416a h0 v0 r0 v1 v2 v3 v4 r1 r2 r3 r4 r5 r6 r7 v5 v6 r8 r9 r10 r11 v7 r12 r13 v8 v9 h1 r14 v10 v11 r15 v12 x14 r16 v14 w15 r17 v16 v17 r18 r19 r20 r21 r22 r23 v18 r24 r25 r26 v19 h1 g0 fn15)) hP hD [0, 1] [] rfl rfl (by decide) (by decide) hk1 hFc hP1 hD1
          clear hP hD hPc hDc hKc hFc hP1 hK1 hD1 hk1 hz1
          generalize H1 = H at hP2 hS ⊢
          have hP : va_P (dC, dI) vwCl (wd_5013416a h0 v0 r0 v1 v2 v3 v4 r1 r2 r3 r4 r5 r6 r7 v5 v6 r8 r9 r10 r11 v7 r12 r13 v8 v9 h1 r14 v10 v11 r15 v12 x14 r16 v14 w15 r17 v16 v17 r18 r19 r20 r21 r22 r23 v18 r24 r25 r26 v19 h1 g0 fn15) H := hP2
          have hD : va_D A (wd_5013416a h0 v0 r0 v1 v2 v3 v4 r1 r2 r3 r4 r5 r6 r7 v5 v6 r8 r9 r10 r11 v7 r12 r13 v8 v9 h1 r14 v10 v11 r15 v12 x14 r16 v14 w15 r17 v16 v17 r18 r19 r20 r21 r22 r23 v18 r24 r25 r26 v19 h1 g0 fn15) := hD2
          clear hP2 hD2
          refine lv_if_ne (tgt := 50) hx hb dX12_endAll_27 (by decide) (fun c25 => ?_) (fun c25 => ?_)
          · skip
            have fc25 : ¬ (ra24.toInt = 0) := fun h9 => c25 (Int32.toInt_inj.mp h9)
            obtain ⟨t26, et26⟩ : ∃ y : Int32, y = x13 + 1 := ⟨_, rfl⟩
            have gt26 : t26.toInt = x13.toInt + (1) := pv_add (a := x13.toInt) (b := (1)) et26 rfl (by decide) (by omega) (by omega)
            refine lv_iinc (v := t26) (lv' := [(1, .int t26), (0, .ref h0)]) hx hb dX12_endAll_50 hl (k := 0) rfl (by rw [et26]; rfl) (by decide) rfl (fun ls hl => ?_)
            refine lv_goto (tgt := 7) hx hb dX12_endAll_53 (by decide) ?_
            exact ih_hL19 t26 x14 fn15 H locs ls (by first | omega | decide) (by first | omega | decide) ia_fn15 (by first | exact pm_TS.zero (by decide) | (apply pm_TS.skip <;> first | assumption | omega) | (apply pm_TS.off <;> first | assumption | omega) | (apply pm_TS.full <;> first | assumption | omega)) (by first | omega | (simp only [Int.toNat] at *; omega)) hP hD hS (lv_sub hl [0, 1] rfl)
          · skip
            have fc25 : ra24.toInt = 0 := congrArg Int32.toInt c25
            refine lv_aload_n hx hb dX12_endAll_30 rfl (lv_at hl 1 rfl) ?_
            refine lv_dup hx hb dX12_endAll_31 rfl ?_
            refine va_get (D := (dC, dI)) (ci := 12) (v := .int x14) (C := RX12) (T := TX12) (N := 48) hx hb hts (fun _ h => List.mem_cons_of_mem _ (List.mem_append_right _ h)) hown hK hP 0 rfl rfl 30 (by decide) (hts (.fieldLink RX12 306 "LeftArgumentsModel" "ended" "I") (List.mem_cons_of_mem _ (List.mem_append_left _ (List.mem_of_getElem? (i := 0) rfl)))) (fun _ h9 => h9) rfl dX12_endAll_32 ?_
            refine lv_iconst (v := 1) hx hb dX12_endAll_35 (by decide) ?_
            refine lv_iload_n hx hb dX12_endAll_36 rfl (lv_at hl 0 rfl) ?_
            refine lv_ishl hx hb dX12_endAll_37 ?_
            refine lv_topi (fun t27 et27 => ?_)
            refine lv_ior hx hb dX12_endAll_38 ?_
            refine lv_topi (fun t28 et28 => ?_)
            refine va_put (D := (dC, dI)) (ci := 12) (v := .int t28) (ty := .int) (C := RX12) (T := TX12) (N := 48) hx hb hts (fun _ h => List.mem_cons_of_mem _ (List.mem_append_right _ h)) tyX12 tyX12_ok nmX12 hown hK hP hD hS 0 rfl rfl 30 (by decide) (hts (.fieldLink RX12 306 "LeftArgumentsModel" "ended" "I") (List.mem_cons_of_mem _ (List.mem_append_left _ (List.mem_of_getElem? (i := 0) rfl)))) (fun _ h9 => h9) rfl (by decide +kernel) rfl rfl (Nat.le_of_ble_eq_true rfl) dX12_endAll_39 (fun H locs hP hD hS => ?_)
            have hP : va_P (dC, dI) vwCl (wd_5013416a h0 v0 r0 v1 v2 v3 v4 r1 r2 r3 r4 r5 r6 r7 v5 v6 r8 r9 r10 r11 v7 r12 r13 v8 v9 h1 r14 v10 v11 r15 v12 t28 r16 v14 w15 r17 v16 v17 r18 r19 r20 r21 r22 r23 v18 r24 r25 r26 v19 h1 g0 fn15) H := hP
            have hD : va_D A (wd_5013416a h0 v0 r0 v1 v2 v3 v4 r1 r2 r3 r4 r5 r6 r7 v5 v6 r8 r9 r10 r11 v7 r12 r13 v8 v9 h1 r14 v10 v11 r15 v12 t28 r16 v14 w15 r17 v16 v17 r18 r19 r20 r21 r22 r23 v18 r24 r25 r26 v19 h1 g0 fn15) := hD
            refine lv_aload_n hx hb dX12_endAll_42 rfl (lv_at hl 1 rfl) ?_
            refine lv_iload_n hx hb dX12_endAll_43 rfl (lv_at hl 0 rfl) ?_
            refine lv_bipush (v := 7) hx hb dX12_endAll_44 (by decide) ?_
            refine lv_iconst (v := 0) hx hb dX12_endAll_46 (by decide) ?_
            have hPc := hP.sub (ws' := (wd_5013416a h0 v0 r0 v1 v2 v3 v4 r1 r2 r3 r4 r5 r6 r7 v5 v6 r8 r9 r10 r11 v7 r12 r13 v8 v9 h1 r14 v10 v11 r15 v12 t28 r16 v14 w15 r17 v16 v17 r18 r19 r20 r21 r22 r23 v18 r24 r25 r26 v19 h1 g0 fn15)) [0, 1] rfl
            have hDc := hD.sub (ws' := (wd_5013416a h0 v0 r0 v1 v2 v3 v4 r1 r2 r3 r4 r5 r6 r7 v5 v6 r8 r9 r10 r11 v7 r12 r13 v8 v9 h1 r14 v10 v11 r15 v12 t28 r16 v14 w15 r17 v16 v17 r18 r19 r20 r21 r22 r23 v18 r24 r25 r26 v19 h1 g0 fn15)) [0, 1] (by decide) rfl
            have hKc := hK.sub (tys' := [(g0, .int)]) [0] rfl
            have hFc := va_free (wc := (wd_5013416a h0 v0 r0 v1 v2 v3 v4 r1 r2 r3 r4 r5 r6 r7 v5 v6 r8 r9 r10 r11 v7 r12 r13 v8 v9 h1 r14 v10 v11 r15 v12 t28 r16 v14 w15 r17 v16 v17 r18 r19 r20 r21 r22 r23 v18 r24 r25 r26 v19 h1 g0 fn15)) hD hS hA [0, 1] rfl
            refine va_callv (va_runV (As := [.int x13, .int 7, .int 0]) (rest := []) ⟨hx, hb, hml, hown, hts⟩ (k_X12_set l dC dI h0 h1 v0 r0 v1 v2 v3 v4 r1 r2 r3 r4 r5 r6 r7 v5 v6 r8 r9 r10 r11 v7 r12 r13 v8 v9 r14 v10 v11 r15 v12 t28 r16 v14 w15 r17 v16 v17 r18 r19 r20 r21 r22 r23 v18 r24 r25 r26 v19 g0 fn15 x13 0 ⟨i_v1a, i_v1b⟩ ⟨i_v5a, i_v5b⟩ ⟨i_v6a, i_v6b⟩ ⟨i_v7a, i_v7b⟩ ⟨i_v8a, i_v8b⟩ ⟨i_v9a, i_v9b⟩ ⟨i_v10a, i_v10b⟩ ⟨i_v14a, i_v14b⟩ ⟨i_v18a, i_v18b⟩ ⟨i_v19a, i_v19b⟩ ⟨qa_x13, by first | omega | decide⟩ trivial H.size) (cwV 3 hts g_X12_endAll_2 rfl rfl rfl (by decide +kernel) ⟨Nat.le_of_ble_eq_true rfl, Nat.le_of_ble_eq_true rfl⟩) (pv_PV12 hPc hKc hDc (q0 := 0) rfl) rfl rfl hl.1 rfl (lv_room (Nat.le_of_ble_eq_true rfl)) dX12_endAll_47 ⟨Nat.le_of_ble_eq_true rfl, Nat.le_of_ble_eq_true rfl⟩) hS (fun q _ h => hFc q h) hFc (fun u t H1 locs ht hvm hwra29 hB hz1 hk1 hS => ?_)
            obtain ⟨hP1, hK1, hD1⟩ := hB
            rw [ht] at hP1
            obtain ⟨hP2, hD2⟩ := va_join (wr := []) (w1 := (wd_5013416a h0 v0 r0 v1 v2 v3 v4 r1 r2 r3 r4 r5 r6 r7 v5 v6 r8 r9 r10 r11 v7 r12 r13 v8 v9 h1 r14 v10 v11 r15 v12 t28 r16 v14 w15 r17 v16 v17 r18 r19 r20 r21 r22 r23 v18 r24 r25 r26 v19 h1 g0 (upd fn15 (pm_I x13 7) 0))) hP hD [0, 1] [] rfl rfl (by decide) (by decide) hk1 hFc hP1 hD1
            clear hP hD hPc hDc hKc hFc hP1 hK1 hD1 hk1 hz1
            generalize H1 = H at hP2 hS ⊢
            have hP : va_P (dC, dI) vwCl (wd_5013416a h0 v0 r0 v1 v2 v3 v4 r1 r2 r3 r4 r5 r6 r7 v5 v6 r8 r9 r10 r11 v7 r12 r13 v8 v9 h1 r14 v10 v11 r15 v12 t28 r16 v14 w15 r17 v16 v17 r18 r19 r20 r21 r22 r23 v18 r24 r25 r26 v19 h1 g0 (upd fn15 (pm_I x13 7) 0)) H := hP2
            have hD : va_D A (wd_5013416a h0 v0 r0 v1 v2 v3 v4 r1 r2 r3 r4 r5 r6 r7 v5 v6 r8 r9 r10 r11 v7 r12 r13 v8 v9 h1 r14 v10 v11 r15 v12 t28 r16 v14 w15 r17 v16 v17 r18 r19 r20 r21 r22 r23 v18 r24 r25 r26 v19 h1 g0 (upd fn15 (pm_I x13 7) 0)) := hD2
            clear hP2 hD2
            obtain ⟨t30, et30⟩ : ∃ y : Int32, y = 8 * x13 + 7 := ⟨_, rfl⟩
            have gt30 : t30.toInt = 8 * x13.toInt + 7 := pm_i8 et30 rfl (by decide) (by omega) (by omega) (by omega) (by omega)
            obtain ⟨fn32, efn32⟩ : ∃ g : Nat → Int32, g = upd fn15 (Int32.toNatClampNeg t30) 0 := ⟨_, rfl⟩
            have e9 : (upd fn15 (pm_I x13 7) 0) = fn32 := by rw [efn32, et30]; rfl
            rw [e9] at hP hD
            have ia_fn32 : pm_NW0 fn32 := by rw [efn32]; exact pm_NW0.st (ia_fn15) (z := t30.toInt) (y := 0) rfl (by decide) (by omega) (fun b9 h8 h9 => ⟨fun _ => ⟨by omega, by omega⟩, fun _ => ⟨by omega, by omega⟩⟩) (fun _ => ⟨by omega, by omega⟩)
            have hP : va_P (dC, dI) vwCl (wd_5013416a h0 v0 r0 v1 v2 v3 v4 r1 r2 r3 r4 r5 r6 r7 v5 v6 r8 r9 r10 r11 v7 r12 r13 v8 v9 h1 r14 v10 v11 r15 v12 t28 r16 v14 w15 r17 v16 v17 r18 r19 r20 r21 r22 r23 v18 r24 r25 r26 v19 h1 g0 fn32) H := hP
            have hD : va_D A (wd_5013416a h0 v0 r0 v1 v2 v3 v4 r1 r2 r3 r4 r5 r6 r7 v5 v6 r8 r9 r10 r11 v7 r12 r13 v8 v9 h1 r14 v10 v11 r15 v12 t28 r16 v14 w15 r17 v16 v17 r18 r19 r20 r21 r22 r23 v18 r24 r25 r26 v19 h1 g0 fn32) := hD
            obtain ⟨t33, et33⟩ : ∃ y : Int32, y = x13 + 1 := ⟨_, rfl⟩
            have gt33 : t33.toInt = x13.toInt + (1) := pv_add (a := x13.toInt) (b := (1)) et33 rfl (by decide) (by omega) (by omega)
            refine lv_iinc (v := t33) (lv' := [(1, .int t33), (0, .ref h0)]) hx hb dX12_endAll_50 hl (k := 0) rfl (by rw [et33]; rfl) (by decide) rfl (fun ls hl => ?_)
            refine lv_goto (tgt := 7) hx hb dX12_endAll_53 (by decide) ?_
            exact ih_hL19 t33 t28 fn32 H locs ls (by first | omega | decide) (by first | omega | decide) ia_fn32 (by first | exact pm_TS.zero (by decide) | (apply pm_TS.skip <;> first | assumption | omega) | (apply pm_TS.off <;> first | assumption | omega) | (apply pm_TS.full <;> first | assumption | omega)) (by first | omega | (simp only [Int.toNat] at *; omega)) hP hD hS (lv_sub hl [0, 1] rfl)
  exact hL19 _ 0 0 f20 H locs ls (by decide) (by decide) ia_f20 (by first | exact pm_TS.zero (by decide) | (apply pm_TS.skip <;> first | assumption | omega) | (apply pm_TS.off <;> first | assumption | omega) | (apply pm_TS.full <;> first | assumption | omega)) (Nat.lt_succ_self _) hP hD hS (lv_sub hl [0, 1] rfl)
def q_X12_set_1 : List Cond := .code yX12_set cX12_set 4 none :: (([.fieldLink RX12 52 "LeftArgumentsModel" "now" "[I"] : List Cond) ++ wsX120)
set_option maxHeartbeats 4000000 in
set_option maxRecDepth 100000 in
theorem k_X12_set_1 (l : Launch) (dC : Nat → ClassId) (dI : Nat → Nat → Nat) (h0 : Nat) (h1 : Nat) (v0 : Int32) (r0 : Nat) (v1 : Int32) (v2 : Int32) (v3 : Int32) (v4 : Int32) (r1 : Nat) (r2 : Nat) (r3 : Nat) (r4 : Nat) (r5 : Nat) (r6 : Nat) (r7 : Nat) (v5 : Int32) (v6 : Int32) (r8 : Nat) (r9 : Nat) (r10 : Nat) (r11 : Nat) (v7 : Int32) (r12 : Nat) (r13 : Nat) (v8 : Int32) (v9 : Int32) (r14 : Nat) (v10 : Int32) (v11 : Int32) (r15 : Nat) (v12 : Int32) (v13 : Int32) (r16 : Nat) (v14 : Int32) (w15 : Int64) (r17 : Nat) (v16 : Int32) (v17 : Int32) (r18 : Nat) (r19 : Nat) (r20 : Nat) (r21 : Nat) (r22 : Nat) (r23 : Nat) (v18 : Int32) (r24 : Nat) (r25 : Nat) (r26 : Nat) (v19 : Int32) (g0 : ClassId) (f20 : Nat → Int32) (v21 : Int32) (v22 : Int32) (i_v1 : 0 ≤ v1.toInt ∧ v1.toInt ≤ 240) (i_v5 : 0 ≤ v5.toInt ∧ v5.toInt ≤ 4) (i_v6 : 0 ≤ v6.toInt ∧ v6.toInt ≤ 4) (i_v7 : 0 ≤ v7.toInt ∧ v7.toInt ≤ 8) (i_v8 : 0 ≤ v8.toInt ∧ v8.toInt ≤ 8) (i_v9 : 0 ≤ v9.toInt ∧ v9.toInt ≤ 1) (i_v10 : -1 ≤ v10.toInt ∧ v10.toInt ≤ 3) (i_v14 : 0 ≤ v14.toInt ∧ v14.toInt ≤ 40) (i_v18 : 0 ≤ v18.toInt ∧ v18.toInt ≤ 10) (i_v19 : 0 ≤ v19.toInt ∧ v19.toInt ≤ 1) (i_v21 : 0 ≤ v21.toInt ∧ v21.toInt ≤ 7) (ia_f20 : (pm_ANY f20)) (sz : Nat) : Met l yX12_set q_X12_set_1 ({ frames := 0, cells := 0, slots := 0, locals := 0 }) (va_Pc [.ref h0, .int v21, .int 3, .int v22] (fun U => U.heap.size = sz ∧ va_P (dC, dI) vwCl (wd_5013416a h0 v0 r0 v1 v2 v3 v4 r1 r2 r3 r4 r5 r6 r7 v5 v6 r8 r9 r10 r11 v7 r12 r13 v8 v9 h1 r14 v10 v11 r15 v12 v13 r16 v14 w15 r17 v16 v17 r18 r19 r20 r21 r22 r23 v18 r24 r25 r26 v19 h1 g0 f20) U.heap ∧ va_K (dC, dI) vwCl [(g0, .int)] U ∧ va_D (fun _ => True) (wd_5013416a h0 v0 r0 v1 v2 v3 v4 r1 r2 r3 r4 r5 r6 r7 v5 v6 r8 r9 r10 r11 v7 r12 r13 v8 v9 h1 r14 v10 v11 r15 v12 v13 r16 v14 w15 r17 v16 v17 r18 r19 r20 r21 r22 r23 v18 r24 r25 r26 v19 h1 g0 f20))) (va_Qv (fun (_ : Unit) => True) (fun (_ : Unit) (t : State) => (va_P (dC, dI) vwCl (wd_5013416a h0 v0 r0 v1 v2 v3 v4 r1 r2 r3 r4 r5 r6 r7 v5 v6 r8 r9 r10 r11 v7 r12 r13 v8 v9 h1 r14 v10 v11 r15 v12 v13 r16 v14 w15 r17 v16 v17 r18 r19 r20 r21 r22 r23 v18 r24 r25 r26 v19 h1 g0 (upd f20 (pm_I v21 3) v22)) t.heap ∧ va_K (dC, dI) vwCl [] t ∧ va_D (va_A (wd_5013416a h0 v0 r0 v1 v2 v3 v4 r1 r2 r3 r4 r5 r6 r7 v5 v6 r8 r9 r10 r11 v7 r12 r13 v8 v9 h1 r14 v10 v11 r15 v12 v13 r16 v14 w15 r17 v16 v17 r18 r19 r20 r21 r22 r23 v18 r24 r25 r26 v19 h1 g0 f20) sz) (wd_5013416a h0 v0 r0 v1 v2 v3 v4 r1 r2 r3 r4 r5 r6 r7 v5 v6 r8 r9 r10 r11 v7 r12 r13 v8 v9 h1 r14 v10 v11 r15 v12 v13 r16 v14 w15 r17 v16 v17 r18 r19 r20 r21 r22 r23 v18 r24 r25 r26 v19 h1 g0 (upd f20 (pm_I v21 3) v22)))) (va_A (wd_5013416a h0 v0 r0 v1 v2 v3 v4 r1 r2 r3 r4 r5 r6 r7 v5 v6 r8 r9 r10 r11 v7 r12 r13 v8 v9 h1 r14 v10 v11 r15 v12 v13 r16 v14 w15 r17 v16 v17 r18 r19 r20 r21 r22 r23 v18 r24 r25 r26 v19 h1 g0 f20) sz)) 0 0 (va_A (wd_5013416a h0 v0 r0 v1 v2 v3 v4 r1 r2 r3 r4 r5 r6 r7 v5 v6 r8 r9 r10 r11 v7 r12 r13 v8 v9 h1 r14 v10 v11 r15 v12 v13 r16 v14 w15 r17 v16 v17 r18 r19 r20 r21 r22 r23 v18 r24 r25 r26 v19 h1 g0 f20) sz) := by
  refine Met.ofW (cc := cX12_set) (maxL := 4) (ret := none) (by decide) rfl ?_
  intro p e s m args below meth c s₁ B hml hv
  obtain ⟨i_v1a, i_v1b⟩ := i_v1
  obtain ⟨i_v5a, i_v5b⟩ := i_v5
  obtain ⟨i_v6a, i_v6b⟩ := i_v6
  obtain ⟨i_v7a, i_v7b⟩ := i_v7
  obtain ⟨i_v8a, i_v8b⟩ := i_v8
  obtain ⟨i_v9a, i_v9b⟩ := i_v9
  obtain ⟨i_v10a, i_v10b⟩ := i_v10
  obtain ⟨i_v14a, i_v14b⟩ := i_v14
  obtain ⟨i_v18a, i_v18b⟩ := i_v18
  obtain ⟨i_v19a, i_v19b⟩ := i_v19
  obtain ⟨i_v21a, i_v21b⟩ := i_v21
  obtain ⟨rfl, hsz, hP, hK, hD0⟩ := hv
  have hx := B.exec
  have hb := B.bytes
  have hr := B.returns
  have hts := atoms_spec (ws := q_X12_set_1) B.pre
  have hown : s.vm.findClass RX12 = some m.cls := findClass_of_methodNamed B.named
  have hlocks := B.notSynchronized
  subst hsz
  have hD := hD0.self (sz := s.heap.size)
  generalize hAe : va_A (wd_5013416a h0 v0 r0 v1 v2 v3 v4 r1 r2 r3 r4 r5 r6 r7 v5 v6 r8 r9 r10 r11 v7 r12 r13 v8 v9 h1 r14 v10 v11 r15 v12 v13 r16 v14 w15 r17 v16 v17 r18 r19 r20 r21 r22 r23 v18 r24 r25 r26 v19 h1 g0 f20) s.heap.size = A at hD ⊢
  have hA : ∀ q : Nat, s.heap.size ≤ q → A q := fun q h => by rw [← hAe]; exact Or.inr h
  have hS : va_S A s.heap s.heap [] := va_S.rf
  generalize hQ : (MQ below _ _ s 0 0 A) = Q
  have hl := lv_entry ([.ref h0, .int v21, .int 3, .int v22]) (n := 4) (Nat.le_of_ble_eq_true rfl)
  rw [lg_entry_eq]
  generalize (lg_sl ([.ref h0, .int v21, .int 3, .int v22]) ++ List.replicate (4 - (lg_sl ([.ref h0, .int v21, .int 3, .int v22])).length) Slot.unset).toArray = ls at hl ⊢
  have hl : lv_has ls 4 [(0, .ref h0), (1, .int v21), (2, .int 3), (3, .int v22)] := hl
  obtain ⟨H, hH⟩ : ∃ H : Heap, H = s.heap := ⟨_, rfl⟩
  obtain ⟨locs, hlocs⟩ : ∃ y : List Loc, y = [] := ⟨_, rfl⟩
  have hS : va_S A s.heap H locs := by rw [hH, hlocs]; exact va_S.rf
  have hP : va_P (dC, dI) vwCl (wd_5013416a h0 v0 r0 v1 v2 v3 v4 r1 r2 r3 r4 r5 r6 r7 v5 v6 r8 r9 r10 r11 v7 r12 r13 v8 v9 h1 r14 v10 v11 r15 v12 v13 r16 v14 w15 r17 v16 v17 r18 r19 r20 r21 r22 r23 v18 r24 r25 r26 v19 h1 g0 f20) H := by rw [hH]; exact hP
  rw [← hH, ← hlocs]
  refine lv_aload_n hx hb dX12_set_0 rfl (lv_at hl 0 rfl) ?_
  refine va_get (D := (dC, dI)) (ci := 12) (v := .ref h1) (C := RX12) (T := TX12) (N := 48) hx hb hts (fun _ h => List.mem_cons_of_mem _ (List.mem_append_right _ h)) hown hK hP 0 rfl rfl 24 (by decide) (hts (.fieldLink RX12 52 "LeftArgumentsModel" "now" "[I") (List.mem_cons_of_mem _ (List.mem_append_left _ (List.mem_of_getElem? (i := 0) rfl)))) (fun _ h9 => h9) rfl dX12_set_1 ?_
  refine lv_bipush (v := 8) hx hb dX12_set_4 (by decide) ?_
  refine lv_iload_n hx hb dX12_set_6 rfl (lv_at hl 1 rfl) ?_
  refine lv_imul hx hb dX12_set_7 ?_
  refine lv_topi (fun t1 et1 => ?_)
  have gt1 : t1.toInt = 8 * v21.toInt := pv_mul (a := 8) (b := v21.toInt) et1 (by decide) rfl (by omega) (by omega)
  refine lv_iload_n hx hb dX12_set_8 rfl (lv_at hl 2 rfl) ?_
  refine lv_iadd hx hb dX12_set_9 ?_
  refine lv_topi (fun t2 et2 => ?_)
  have gt2 : t2.toInt = t1.toInt + 3 := pv_add (a := t1.toInt) (b := 3) et2 rfl (by decide) (by omega) (by omega)
  refine lv_iload_n hx hb dX12_set_10 rfl (lv_at hl 3 rfl) ?_
  refine va_iast hx hb hK hP hD hS 1 0 rfl rfl (vp_in_iff.mpr ⟨by omega, by omega⟩) dX12_set_11 (fun H locs hP hD hS => ?_)
  obtain ⟨fn3, efn3⟩ : ∃ g : Nat → Int32, g = upd f20 (Int32.toNatClampNeg t2) v22 := ⟨_, rfl⟩
  rw [← efn3] at hP hD
  have ia_fn3 : pm_ANY fn3 := trivial
  have hP : va_P (dC, dI) vwCl (wd_5013416a h0 v0 r0 v1 v2 v3 v4 r1 r2 r3 r4 r5 r6 r7 v5 v6 r8 r9 r10 r11 v7 r12 r13 v8 v9 h1 r14 v10 v11 r15 v12 v13 r16 v14 w15 r17 v16 v17 r18 r19 r20 r21 r22 r23 v18 r24 r25 r26 v19 h1 g0 fn3) H := hP
  have hD : va_D A (wd_5013416a h0 v0 r0 v1 v2 v3 v4 r1 r2 r3 r4 r5 r6 r7 v5 v6 r8 r9 r10 r11 v7 r12 r13 v8 v9 h1 r14 v10 v11 r15 v12 v13 r16 v14 w15 r17 v16 v17 r18 r19 r20 r21 r22 r23 v18 r24 r25 r26 v19 h1 g0 fn3) := hD
  subst hQ
  have e9 : fn3 = (upd f20 (pm_I v21 3) v22) := by subst_vars; rfl
  rw [e9] at hP hD
  have hP9 := hP.sub (ws' := (wd_5013416a h0 v0 r0 v1 v2 v3 v4 r1 r2 r3 r4 r5 r6 r7 v5 v6 r8 r9 r10 r11 v7 r12 r13 v8 v9 h1 r14 v10 v11 r15 v12 v13 r16 v14 w15 r17 v16 v17 r18 r19 r20 r21 r22 r23 v18 r24 r25 r26 v19 h1 g0 (upd f20 (pm_I v21 3) v22))) [0, 1] rfl
  have hD9 := hD.sub (ws' := (wd_5013416a h0 v0 r0 v1 v2 v3 v4 r1 r2 r3 r4 r5 r6 r7 v5 v6 r8 r9 r10 r11 v7 r12 r13 v8 v9 h1 r14 v10 v11 r15 v12 v13 r16 v14 w15 r17 v16 v17 r18 r19 r20 r21 r22 r23 v18 r24 r25 r26 v19 h1 g0 (upd f20 (pm_I v21 3) v22))) [0, 1] (by decide) rfl
  have hK9 := hK.sub (tys' := []) [] rfl
  exact W.vret hx hb hr (fun t ht hW => ⟨⟨(), rfl, trivial, ⟨by rw [ht]; exact hP9, va_K.moved hW.alike hK9, hD9⟩⟩, hS.F ht⟩) hS.2.2 dX12_set_12
def q_X12_dropAll : List Cond := .code yX12_dropAll cX12_dropAll 3 none :: (([.fieldLink RX12 309 "LeftArgumentsModel" "fell" "I", .fieldLink RX12 46 "LeftArgumentsModel" "rule" "[I", .code yX12_loadOf cX12_loadOf 4 (some .int), .code yX12_isThere cX12_isThere 2 (some .boolean), .code yX12_in cX12_in 3 (some .boolean), .initialized RX12, .static yX12_in, .methodLink RX12 217 yX12_in, .code yX12_of cX12_of 3 (some .int), .fieldLink RX12 52 "LeftArgumentsModel" "now" "[I", .instanceMethod yX12_of, .selects RX12 yX12_of yX12_of, .methodLink RX12 287 yX12_of, .instanceMethod yX12_isThere, .selects RX12 yX12_isThere yX12_isThere, .methodLink RX12 290 yX12_isThere, .instanceMethod yX12_loadOf, .selects RX12 yX12_loadOf yX12_loadOf, .methodLink RX12 312 yX12_loadOf, .code yX12_largestOn cX12_largestOn 4 (some .int), .instanceMethod yX12_largestOn, .selects RX12 yX12_largestOn yX12_largestOn, .methodLink RX12 315 yX12_largestOn, .code yX12_set cX12_set 4 none, .instanceMethod yX12_set, .selects RX12 yX12_set yX12_set, .methodLink RX12 258 yX12_set] : List Cond) ++ wsX120)
set_option maxRecDepth 20000 in
theorem g_X12_dropAll_0 : GoodIn q_X12_dropAll (wsV RX12 312 RX12 yX12_loadOf q_X12_loadOf) := goodIn_app (goodIn_r _ [19, 17, 18, 6] rfl (by decide +kernel)) (goodIn_ca (goodIn_r (.code yX12_loadOf cX12_loadOf 4 (some .int) :: [.code yX12_isThere cX12_isThere 2 (some .boolean), .code yX12_in cX12_in 3 (some .boolean), .initialized RX12, .static yX12_in, .methodLink RX12 217 yX12_in, .code yX12_of cX12_of 3 (some .int), .fieldLink RX12 52 "LeftArgumentsModel" "now" "[I", .instanceMethod yX12_of, .selects RX12 yX12_of yX12_of, .methodLink RX12 287 yX12_of, .instanceMethod yX12_isThere, .selects RX12 yX12_isThere yX12_isThere, .methodLink RX12 290 yX12_isThere]) [3, 4, 5, 6, 7, 8, 9, 10, 11, 12, 13, 14, 15, 16] rfl (by decide +kernel)) (goodIn_sub (fun _ h => List.mem_cons_of_mem _ (List.mem_append_right _ h)) gwX12))
set_option maxRecDepth 20000 in
theorem g_X12_dropAll_1 : GoodIn q_X12_dropAll (wsV RX12 315 RX12 yX12_largestOn q_X12_largestOn) := goodIn_app (goodIn_r _ [23, 21, 22, 6] rfl (by decide +kernel)) (goodIn_ca (goodIn_r (.code yX12_largestOn cX12_largestOn 4 (some .int) :: [.code yX12_isThere cX12_isThere 2 (some .boolean), .code yX12_in cX12_in 3 (some .boolean), .initialized RX12, .static yX12_in, .methodLink RX12 217 yX12_in, .code yX12_of cX12_of 3 (some .int), .fieldLink RX12 52 "LeftArgumentsModel" "now" "[I", .instanceMethod yX12_of, .selects RX12 yX12_of yX12_of, .methodLink RX12 287 yX12_of, .instanceMethod yX12_isThere, .selects RX12 yX12_isThere yX12_isThere, .methodLink RX12 290 yX12_isThere]) [20, 4, 5, 6, 7, 8, 9, 10, 11, 12, 13, 14, 15, 16] rfl (by decide +kernel)) (goodIn_sub (fun _ h => List.mem_cons_of_mem _ (List.mem_append_right _ h)) gwX12))
set_option maxRecDepth 20000 in
theorem g_X12_dropAll_2 : GoodIn q_X12_dropAll (wsV RX12 258 RX12 yX12_set q_X12_set_1) := goodIn_app (goodIn_r _ [27, 25, 26, 6] rfl (by decide +kernel)) (goodIn_ca (goodIn_r (.code yX12_set cX12_set 4 none :: [.fieldLink RX12 52 "LeftArgumentsModel" "now" "[I"]) [24, 10] rfl (by decide +kernel)) (goodIn_sub (fun _ h => List.mem_cons_of_mem _ (List.mem_append_right _ h)) gwX12))
set_option maxHeartbeats 4000000 in
set_option maxRecDepth 100000 in
theorem k_X12_dropAll (l : Launch) (dC : Nat → ClassId) (dI : Nat → Nat → Nat) (h0 : Nat) (h1 : Nat) (h2 : Nat) (v0 : Int32) (r0 : Nat) (v1 : Int32) (v2 : Int32) (v3 : Int32) (v4 : Int32) (r1 : Nat) (r2 : Nat) (r3 : Nat) (r4 : Nat) (r5 : Nat) (r6 : Nat) (r7 : Nat) (v5 : Int32) (v6 : Int32) (r8 : Nat) (r9 : Nat) (r10 : Nat) (r11 : Nat) (v7 : Int32) (r12 : Nat) (v8 : Int32) (v9 : Int32) (r13 : Nat) (v10 : Int32) (v11 : Int32) (r14 : Nat) (v12 : Int32) (v13 : Int32) (r15 : Nat) (v14 : Int32) (w15 : Int64) (r16 : Nat) (v16 : Int32) (v17 : Int32) (r17 : Nat) (r18 : Nat) (r19 : Nat) (r20 : Nat) (r21 : Nat) (r22 : Nat) (v18 : Int32) (r23 : Nat) (r24 : Nat) (r25 : Nat) (v19 : Int32) (g0 : ClassId) (f20 : Nat → Int32) (g1 : ClassId) (f21 : Nat → Int32) (i_v1 : 0 ≤ v1.toInt ∧ v1.toInt ≤ 240) (i_v5 : 0 ≤ v5.toInt ∧ v5.toInt ≤ 4) (i_v6 : 0 ≤ v6.toInt ∧ v6.toInt ≤ 4) (i_v7 : 0 ≤ v7.toInt ∧ v7.toInt ≤ 8) (i_v8 : 0 ≤ v8.toInt ∧ v8.toInt ≤ 8) (i_v9 : 0 ≤ v9.toInt ∧ v9.toInt ≤ 1) (i_v10 : -1 ≤ v10.toInt ∧ v10.toInt ≤ 3) (i_v14 : 0 ≤ v14.toInt ∧ v14.toInt ≤ 40) (i_v18 : 0 ≤ v18.toInt ∧ v18.toInt ≤ 10) (i_v19 : 0 ≤ v19.toInt ∧ v19.toInt ≤ 1) (ia_f20 : (pm_RU f20)) (ia_f21 : (pm_NW f21)) (sz : Nat) : Met l yX12_dropAll q_X12_dropAll ({ frames := 3, cells := 0, slots := 0, locals := 66 }) (va_Pc [.ref h0] (fun U => U.heap.size = sz ∧ va_P (dC, dI) vwCl (wd_78675856 h0 v0 r0 v1 v2 v3 v4 r1 r2 r3 r4 r5 r6 r7 v5 v6 r8 r9 r10 r11 v7 h1 r12 v8 v9 h2 r13 v10 v11 r14 v12 v13 r15 v14 w15 r16 v16 v17 r17 r18 r19 r20 r21 r22 v18 r23 r24 r25 v19 h1 g0 f20 h2 g1 f21) U.heap ∧ va_K (dC, dI) vwCl [(g0, .int), (g1, .int)] U ∧ va_D (fun _ => True) (wd_78675856 h0 v0 r0 v1 v2 v3 v4 r1 r2 r3 r4 r5 r6 r7 v5 v6 r8 r9 r10 r11 v7 h1 r12 v8 v9 h2 r13 v10 v11 r14 v12 v13 r15 v14 w15 r16 v16 v17 r17 r18 r19 r20 r21 r22 v18 r23 r24 r25 v19 h1 g0 f20 h2 g1 f21))) (va_Qv (fun (_ : Unit) => True) (fun (_ : Unit) (t : State) => (∃ (o_h0_29 : Int32) (o_h2 : Nat → Int32), (pm_NW o_h2) ∧ va_P (dC, dI) vwCl (wd_78675856 h0 v0 r0 v1 v2 v3 v4 r1 r2 r3 r4 r5 r6 r7 v5 v6 r8 r9 r10 r11 v7 h1 r12 v8 v9 h2 r13 v10 v11 r14 o_h0_29 v13 r15 v14 w15 r16 v16 v17 r17 r18 r19 r20 r21 r22 v18 r23 r24 r25 v19 h1 g0 f20 h2 g1 o_h2) t.heap ∧ va_K (dC, dI) vwCl [] t ∧ va_D (va_A (wd_78675856 h0 v0 r0 v1 v2 v3 v4 r1 r2 r3 r4 r5 r6 r7 v5 v6 r8 r9 r10 r11 v7 h1 r12 v8 v9 h2 r13 v10 v11 r14 v12 v13 r15 v14 w15 r16 v16 v17 r17 r18 r19 r20 r21 r22 v18 r23 r24 r25 v19 h1 g0 f20 h2 g1 f21) sz) (wd_78675856 h0 v0 r0 v1 v2 v3 v4 r1 r2 r3 r4 r5 r6 r7 v5 v6 r8 r9 r10 r11 v7 h1 r12 v8 v9 h2 r13 v10 v11 r14 o_h0_29 v13 r15 v14 w15 r16 v16 v17 r17 r18 r19 r20 r21 r22 v18 r23 r24 r25 v19 h1 g0 f20 h2 g1 o_h2))) (va_A (wd_78675856 h0 v0 r0 v1 v2 v3 v4 r1 r2 r3 r4 r5 r6 r7 v5 v6 r8 r9 r10 r11 v7 h1 r12 v8 v9 h2 r13 v10 v11 r14 v12 v13 r15 v14 w15 r16 v16 v17 r17 r18 r19 r20 r21 r22 v18 r23 r24 r25 v19 h1 g0 f20 h2 g1 f21) sz)) 0 0 (va_A (wd_78675856 h0 v0 r0 v1 v2 v3 v4 r1 r2 r3 r4 r5 r6 r7 v5 v6 r8 r9 r10 r11 v7 h1 r12 v8 v9 h2 r13 v10 v11 r14 v12 v13 r15 v14 w15 r16 v16 v17 r17 r18 r19 r20 r21 r22 v18 r23 r24 r25 v19 h1 g0 f20 h2 g1 f21) sz) := by
  refine Met.ofW (cc := cX12_dropAll) (maxL := 3) (ret := none) (by decide) rfl ?_
  intro p e s m args below meth c s₁ B hml hv
  obtain ⟨i_v1a, i_v1b⟩ := i_v1
  obtain ⟨i_v5a, i_v5b⟩ := i_v5
  obtain ⟨i_v6a, i_v6b⟩ := i_v6
  obtain ⟨i_v7a, i_v7b⟩ := i_v7
  obtain ⟨i_v8a, i_v8b⟩ := i_v8
  obtain ⟨i_v9a, i_v9b⟩ := i_v9
  obtain ⟨i_v10a, i_v10b⟩ := i_v10
  obtain ⟨i_v14a, i_v14b⟩ := i_v14
  obtain ⟨i_v18a, i_v18b⟩ := i_v18
  obtain ⟨i_v19a, i_v19b⟩ := i_v19
  obtain ⟨rfl, hsz, hP, hK, hD0⟩ := hv
  have hx := B.exec
  have hb := B.bytes
  have hr := B.returns
  have hts := atoms_spec (ws := q_X12_dropAll) B.pre
  have hown : s.vm.findClass RX12 = some m.cls := findClass_of_methodNamed B.named
  have hlocks := B.notSynchronized
  subst hsz
  have hD := hD0.self (sz := s.heap.size)
  generalize hAe : va_A (wd_78675856 h0 v0 r0 v1 v2 v3 v4 r1 r2 r3 r4 r5 r6 r7 v5 v6 r8 r9 r10 r11 v7 h1 r12 v8 v9 h2 r13 v10 v11 r14 v12 v13 r15 v14 w15 r16 v16 v17 r17 r18 r19 r20 r21 r22 v18 r23 r24 r25 v19 h1 g0 f20 h2 g1 f21) s.heap.size = A at hD ⊢
  have hA : ∀ q : Nat, s.heap.size ≤ q → A q := fun q h => by rw [← hAe]; exact Or.inr h
  have hS : va_S A s.heap s.heap [] := va_S.rf
  generalize hQ : (MQ below _ _ s 0 0 A) = Q
  have hl := lv_entry ([.ref h0]) (n := 3) (Nat.le_of_ble_eq_true rfl)
  rw [lg_entry_eq]
  generalize (lg_sl ([.ref h0]) ++ List.replicate (3 - (lg_sl ([.ref h0])).length) Slot.unset).toArray = ls at hl ⊢
  have hl : lv_has ls 3 [(0, .ref h0)] := hl
  obtain ⟨H, hH⟩ : ∃ H : Heap, H = s.heap := ⟨_, rfl⟩
  obtain ⟨locs, hlocs⟩ : ∃ y : List Loc, y = [] := ⟨_, rfl⟩
  have hS : va_S A s.heap H locs := by rw [hH, hlocs]; exact va_S.rf
  have hP : va_P (dC, dI) vwCl (wd_78675856 h0 v0 r0 v1 v2 v3 v4 r1 r2 r3 r4 r5 r6 r7 v5 v6 r8 r9 r10 r11 v7 h1 r12 v8 v9 h2 r13 v10 v11 r14 v12 v13 r15 v14 w15 r16 v16 v17 r17 r18 r19 r20 r21 r22 v18 r23 r24 r25 v19 h1 g0 f20 h2 g1 f21) H := by rw [hH]; exact hP
  rw [← hH, ← hlocs]
  refine lv_aload_n hx hb dX12_dropAll_0 rfl (lv_at hl 0 rfl) ?_
  refine lv_iconst (v := 0) hx hb dX12_dropAll_1 (by decide) ?_
  refine va_put (D := (dC, dI)) (ci := 12) (v := .int 0) (ty := .int) (C := RX12) (T := TX12) (N := 48) hx hb hts (fun _ h => List.mem_cons_of_mem _ (List.mem_append_right _ h)) tyX12 tyX12_ok nmX12 hown hK hP hD hS 0 rfl rfl 29 (by decide) (hts (.fieldLink RX12 309 "LeftArgumentsModel" "fell" "I") (List.mem_cons_of_mem _ (List.mem_append_left _ (List.mem_of_getElem? (i := 0) rfl)))) (fun _ h9 => h9) rfl (by decide +kernel) rfl rfl (Nat.le_of_ble_eq_true rfl) dX12_dropAll_2 (fun H locs hP hD hS => ?_)
  have hP : va_P (dC, dI) vwCl (wd_78675856 h0 v0 r0 v1 v2 v3 v4 r1 r2 r3 r4 r5 r6 r7 v5 v6 r8 r9 r10 r11 v7 h1 r12 v8 v9 h2 r13 v10 v11 r14 0 v13 r15 v14 w15 r16 v16 v17 r17 r18 r19 r20 r21 r22 v18 r23 r24 r25 v19 h1 g0 f20 h2 g1 f21) H := hP
  have hD : va_D A (wd_78675856 h0 v0 r0 v1 v2 v3 v4 r1 r2 r3 r4 r5 r6 r7 v5 v6 r8 r9 r10 r11 v7 h1 r12 v8 v9 h2 r13 v10 v11 r14 0 v13 r15 v14 w15 r16 v16 v17 r17 r18 r19 r20 r21 r22 v18 r23 r24 r25 v19 h1 g0 f20 h2 g1 f21) := hD
  refine lv_iconst (v := 0) hx hb dX12_dropAll_5 (by decide) ?_
  refine lv_istore_n (lv' := [(1, .int 0), (0, .ref h0)]) hx hb dX12_dropAll_6 rfl hl (by decide) rfl (fun ls hl => ?_)
  have hL19 : ∀ (n9 : Nat), ∀ (x13 : Int32) (x14 : Int32) (fn15 : Nat → Int32) (H : Heap) (locs : List Loc) (ls : Array Slot), 0 ≤ x13.toInt → x13.toInt ≤ 5 → (pm_NW fn15) → (5 - x13.toInt).toNat < n9 → va_P (dC, dI) vwCl (wd_78675856 h0 v0 r0 v1 v2 v3 v4 r1 r2 r3 r4 r5 r6 r7 v5 v6 r8 r9 r10 r11 v7 h1 r12 v8 v9 h2 r13 v10 v11 r14 x14 v13 r15 v14 w15 r16 v16 v17 r17 r18 r19 r20 r21 r22 v18 r23 r24 r25 v19 h1 g0 f20 h2 g1 fn15) H → va_D A (wd_78675856 h0 v0 r0 v1 v2 v3 v4 r1 r2 r3 r4 r5 r6 r7 v5 v6 r8 r9 r10 r11 v7 h1 r12 v8 v9 h2 r13 v10 v11 r14 x14 v13 r15 v14 w15 r16 v16 v17 r17 r18 r19 r20 r21 r22 v18 r23 r24 r25 v19 h1 g0 f20 h2 g1 fn15) → va_S A s.heap H locs → lv_has ls 3 [(1, .int x13), (0, .ref h0)] → W p l e ({ frames := 3, cells := 0, slots := 0, locals := 66 }) s m ([.ref h0] : List Value).toArray below meth c H locs 0 0 Q (F0 m 7 ls []) := by
    intro n9
    induction n9 with
    | zero => intro x13 x14 fn15 H locs ls qa_x13 qb_x13 ia_fn15 hm9 hP hD hS hl; exact absurd hm9 (Nat.not_lt_zero _)
    | succ n9 ih_hL19 =>
      intro x13 x14 fn15 H locs ls qa_x13 qb_x13 ia_fn15 hm9 hP hD hS hl
      refine lv_iload_n hx hb dX12_dropAll_7 rfl (lv_at hl 0 rfl) ?_
      refine lv_aload_n hx hb dX12_dropAll_8 rfl (lv_at hl 1 rfl) ?_
      refine va_get (D := (dC, dI)) (ci := 12) (v := .ref h1) (C := RX12) (T := TX12) (N := 48) hx hb hts (fun _ h => List.mem_cons_of_mem _ (List.mem_append_right _ h)) hown hK hP 0 rfl rfl 20 (by decide) (hts (.fieldLink RX12 46 "LeftArgumentsModel" "rule" "[I") (List.mem_cons_of_mem _ (List.mem_append_left _ (List.mem_of_getElem? (i := 1) rfl)))) (fun _ h9 => h9) rfl dX12_dropAll_9 ?_
      refine lv_iconst (v := 1) hx hb dX12_dropAll_12 (by decide) ?_
      refine va_iald hx hb hK hP 1 0 rfl rfl (pv_c (x := 1) (n := 4) (by decide)) dX12_dropAll_13 ?_
      refine lv_topi (fun t20 et20 => ?_)
      have gat20 : 0 ≤ t20.toInt ∧ t20.toInt ≤ 5 := by rw [et20]; exact ia_f20.1
      refine lv_icmp_ge (tgt := 66) hx hb dX12_dropAll_14 (by decide) (fun c21 => ?_) (fun c21 => ?_)
      · skip
        have fc21 : t20.toInt ≤ x13.toInt := Int32.le_iff_toInt_le.mp c21
        have r1c21 := Int32.toInt_lt x13
        have r2c21 := Int32.toInt_lt t20
        have r3c21 := Int32.le_toInt x13
        have r4c21 := Int32.le_toInt t20
        subst hQ
        have hP9 := hP.sub (ws' := (wd_78675856 h0 v0 r0 v1 v2 v3 v4 r1 r2 r3 r4 r5 r6 r7 v5 v6 r8 r9 r10 r11 v7 h1 r12 v8 v9 h2 r13 v10 v11 r14 x14 v13 r15 v14 w15 r16 v16 v17 r17 r18 r19 r20 r21 r22 v18 r23 r24 r25 v19 h1 g0 f20 h2 g1 fn15)) [0, 1, 2] rfl
        have hD9 := hD.sub (ws' := (wd_78675856 h0 v0 r0 v1 v2 v3 v4 r1 r2 r3 r4 r5 r6 r7 v5 v6 r8 r9 r10 r11 v7 h1 r12 v8 v9 h2 r13 v10 v11 r14 x14 v13 r15 v14 w15 r16 v16 v17 r17 r18 r19 r20 r21 r22 v18 r23 r24 r25 v19 h1 g0 f20 h2 g1 fn15)) [0, 1, 2] (by decide) rfl
        have hK9 := hK.sub (tys' := []) [] rfl
        exact W.vret hx hb hr (fun t ht hW => ⟨⟨(), rfl, trivial, ⟨x14, fn15, ia_fn15, by rw [ht]; exact hP9, va_K.moved hW.alike hK9, hD9⟩⟩, hS.F ht⟩) hS.2.2 dX12_dropAll_66
      · skip
        have fc21 : ¬ (t20.toInt ≤ x13.toInt) := fun h9 => c21 (Int32.le_iff_toInt_le.mpr h9)
        have r1c21 := Int32.toInt_lt x13
        have r2c21 := Int32.toInt_lt t20
        have r3c21 := Int32.le_toInt x13
        have r4c21 := Int32.le_toInt t20
        have hL26 : ∀ (n9 : Nat), ∀ (x22 : Int32) (fn23 : Nat → Int32) (H : Heap) (locs : List Loc) (ls : Array Slot), (pm_NW fn23) → (pm_cnt fn23 x13) < n9 → va_P (dC, dI) vwCl (wd_78675856 h0 v0 r0 v1 v2 v3 v4 r1 r2 r3 r4 r5 r6 r7 v5 v6 r8 r9 r10 r11 v7 h1 r12 v8 v9 h2 r13 v10 v11 r14 x22 v13 r15 v14 w15 r16 v16 v17 r17 r18 r19 r20 r21 r22 v18 r23 r24 r25 v19 h1 g0 f20 h2 g1 fn23) H → va_D A (wd_78675856 h0 v0 r0 v1 v2 v3 v4 r1 r2 r3 r4 r5 r6 r7 v5 v6 r8 r9 r10 r11 v7 h1 r12 v8 v9 h2 r13 v10 v11 r14 x22 v13 r15 v14 w15 r16 v16 v17 r17 r18 r19 r20 r21 r22 v18 r23 r24 r25 v19 h1 g0 f20 h2 g1 fn23) → va_S A s.heap H locs → lv_has ls 3 [(1, .int x13), (0, .ref h0)] → W p l e ({ frames := 3, cells := 0, slots := 0, locals := 66 }) s m ([.ref h0] : List Value).toArray below meth c H locs 0 0 Q (F0 m 17 ls []) := by
          intro n9
          induction n9 with
          | zero => intro x22 fn23 H locs ls ia_fn23 hm9 hP hD hS hl; exact absurd hm9 (Nat.not_lt_zero _)
          | succ n9 ih_hL26 =>
            intro x22 fn23 H locs ls ia_fn23 hm9 hP hD hS hl
            refine lv_aload_n hx hb dX12_dropAll_17 rfl (lv_at hl 1 rfl) ?_
            refine lv_iload_n hx hb dX12_dropAll_18 rfl (lv_at hl 0 rfl) ?_
            have hPc := hP.sub (ws' := (wd_5013416a h0 v0 r0 v1 v2 v3 v4 r1 r2 r3 r4 r5 r6 r7 v5 v6 r8 r9 r10 r11 v7 h1 r12 v8 v9 h2 r13 v10 v11 r14 x22 v13 r15 v14 w15 r16 v16 v17 r17 r18 r19 r20 r21 r22 v18 r23 r24 r25 v19 h2 g1 fn23)) [0, 2] rfl
            have hDc := hD.sub (ws' := (wd_5013416a h0 v0 r0 v1 v2 v3 v4 r1 r2 r3 r4 r5 r6 r7 v5 v6 r8 r9 r10 r11 v7 h1 r12 v8 v9 h2 r13 v10 v11 r14 x22 v13 r15 v14 w15 r16 v16 v17 r17 r18 r19 r20 r21 r22 v18 r23 r24 r25 v19 h2 g1 fn23)) [0, 2] (by decide) rfl
            have hKc := hK.sub (tys' := [(g1, .int)]) [1] rfl
            have hFc := va_free (wc := (wd_5013416a h0 v0 r0 v1 v2 v3 v4 r1 r2 r3 r4 r5 r6 r7 v5 v6 r8 r9 r10 r11 v7 h1 r12 v8 v9 h2 r13 v10 v11 r14 x22 v13 r15 v14 w15 r16 v16 v17 r17 r18 r19 r20 r21 r22 v18 r23 r24 r25 v19 h2 g1 fn23)) hD hS hA [0, 2] rfl
            refine va_calli (va_runV (As := [.int x13]) (rest := []) ⟨hx, hb, hml, hown, hts⟩ (k_X12_loadOf l dC dI h0 h2 v0 r0 v1 v2 v3 v4 r1 r2 r3 r4 r5 r6 r7 v5 v6 r8 r9 r10 r11 v7 h1 r12 v8 v9 r13 v10 v11 r14 x22 v13 r15 v14 w15 r16 v16 v17 r17 r18 r19 r20 r21 r22 v18 r23 r24 r25 v19 g1 fn23 x13 ⟨i_v1a, i_v1b⟩ ⟨i_v5a, i_v5b⟩ ⟨i_v6a, i_v6b⟩ ⟨i_v7a, i_v7b⟩ ⟨i_v8a, i_v8b⟩ ⟨i_v9a, i_v9b⟩ ⟨i_v10a, i_v10b⟩ ⟨i_v14a, i_v14b⟩ ⟨i_v18a, i_v18b⟩ ⟨i_v19a, i_v19b⟩ ia_fn23 H.size) (cwV 1 hts g_X12_dropAll_0 rfl rfl rfl (by decide +kernel) ⟨Nat.le_of_ble_eq_true rfl, Nat.le_of_ble_eq_true rfl⟩) (pv_PV12 hPc hKc hDc (q0 := 0) rfl) rfl rfl hl.1 rfl (lv_room (Nat.le_of_ble_eq_true rfl)) dX12_dropAll_19 ⟨Nat.le_of_ble_eq_true rfl, Nat.le_of_ble_eq_true rfl⟩) hS (fun q _ h => hFc q h) hFc (fun ra27 u t H1 locs ht hvm hwra27 hB hz1 hk1 hS => ?_)
            try rw [hwra27] at hB
            obtain ⟨pt0_ra27, hP1, hK1, hD1⟩ := hB
            rw [ht] at hP1
            obtain ⟨hP2, hD2⟩ := va_join (wr := (wd_6f8f3203 h1 g0 f20)) (w1 := (wd_5013416a h0 v0 r0 v1 v2 v3 v4 r1 r2 r3 r4 r5 r6 r7 v5 v6 r8 r9 r10 r11 v7 h1 r12 v8 v9 h2 r13 v10 v11 r14 x22 v13 r15 v14 w15 r16 v16 v17 r17 r18 r19 r20 r21 r22 v18 r23 r24 r25 v19 h2 g1 fn23)) hP hD [0, 2] [1] rfl rfl (by decide) (by decide) hk1 hFc hP1 hD1
            clear hP hD hPc hDc hKc hFc hP1 hK1 hD1 hk1 hz1
            generalize H1 = H at hP2 hS ⊢
            have hP := hP2.sub (ws' := (wd_78675856 h0 v0 r0 v1 v2 v3 v4 r1 r2 r3 r4 r5 r6 r7 v5 v6 r8 r9 r10 r11 v7 h1 r12 v8 v9 h2 r13 v10 v11 r14 x22 v13 r15 v14 w15 r16 v16 v17 r17 r18 r19 r20 r21 r22 v18 r23 r24 r25 v19 h1 g0 f20 h2 g1 fn23)) [1, 0, 2] rfl
            have hD := hD2.sub (ws' := (wd_78675856 h0 v0 r0 v1 v2 v3 v4 r1 r2 r3 r4 r5 r6 r7 v5 v6 r8 r9 r10 r11 v7 h1 r12 v8 v9 h2 r13 v10 v11 r14 x22 v13 r15 v14 w15 r16 v16 v17 r17 r18 r19 r20 r21 r22 v18 r23 r24 r25 v19 h1 g0 f20 h2 g1 fn23)) [1, 0, 2] (by decide) rfl
            clear hP2 hD2
            refine lv_aload_n hx hb dX12_dropAll_22 rfl (lv_at hl 1 rfl) ?_
            refine va_get (D := (dC, dI)) (ci := 12) (v := .ref h1) (C := RX12) (T := TX12) (N := 48) hx hb hts (fun _ h => List.mem_cons_of_mem _ (List.mem_append_right _ h)) hown hK hP 0 rfl rfl 20 (by decide) (hts (.fieldLink RX12 46 "LeftArgumentsModel" "rule" "[I") (List.mem_cons_of_mem _ (List.mem_append_left _ (List.mem_of_getElem? (i := 1) rfl)))) (fun _ h9 => h9) rfl dX12_dropAll_23 ?_
            refine lv_iconst (v := 0) hx hb dX12_dropAll_26 (by decide) ?_
            refine va_iald hx hb hK hP 1 0 rfl rfl (pv_c (x := 0) (n := 4) (by decide)) dX12_dropAll_27 ?_
            refine lv_topi (fun t28 et28 => ?_)
            have gat28 : 0 ≤ t28.toInt := by rw [et28]; exact ia_f20.2
            refine lv_icmp_le (tgt := 60) hx hb dX12_dropAll_28 (by decide) (fun c29 => ?_) (fun c29 => ?_)
            · skip
              have fc29 : ra27.toInt ≤ t28.toInt := Int32.le_iff_toInt_le.mp c29
              have r1c29 := Int32.toInt_lt ra27
              have r2c29 := Int32.toInt_lt t28
              have r3c29 := Int32.le_toInt ra27
              have r4c29 := Int32.le_toInt t28
              obtain ⟨t30, et30⟩ : ∃ y : Int32, y = x13 + 1 := ⟨_, rfl⟩
              have gt30 : t30.toInt = x13.toInt + (1) := pv_add (a := x13.toInt) (b := (1)) et30 rfl (by decide) (by omega) (by omega)
              refine lv_iinc (v := t30) (lv' := [(1, .int t30), (0, .ref h0)]) hx hb dX12_dropAll_60 hl (k := 0) rfl (by rw [et30]; rfl) (by decide) rfl (fun ls hl => ?_)
              refine lv_goto (tgt := 7) hx hb dX12_dropAll_63 (by decide) ?_
              exact ih_hL19 t30 x22 fn23 H locs ls (by first | omega | decide) (by first | omega | decide) ia_fn23 (by first | omega | (simp only [Int.toNat] at *; omega)) hP hD hS (lv_sub hl [0, 1] rfl)
            · skip
              have fc29 : ¬ (ra27.toInt ≤ t28.toInt) := fun h9 => c29 (Int32.le_iff_toInt_le.mpr h9)
              have r1c29 := Int32.toInt_lt ra27
              have r2c29 := Int32.toInt_lt t28
              have r3c29 := Int32.le_toInt ra27
              have r4c29 := Int32.le_toInt t28
              refine lv_aload_n hx hb dX12_dropAll_31 rfl (lv_at hl 1 rfl) ?_
              refine lv_iload_n hx hb dX12_dropAll_32 rfl (lv_at hl 0 rfl) ?_
              have hPc := hP.sub (ws' := (wd_5013416a h0 v0 r0 v1 v2 v3 v4 r1 r2 r3 r4 r5 r6 r7 v5 v6 r8 r9 r10 r11 v7 h1 r12 v8 v9 h2 r13 v10 v11 r14 x22 v13 r15 v14 w15 r16 v16 v17 r17 r18 r19 r20 r21 r22 v18 r23 r24 r25 v19 h2 g1 fn23)) [0, 2] rfl
              have hDc := hD.sub (ws' := (wd_5013416a h0 v0 r0 v1 v2 v3 v4 r1 r2 r3 r4 r5 r6 r7 v5 v6 r8 r9 r10 r11 v7 h1 r12 v8 v9 h2 r13 v10 v11 r14 x22 v13 r15 v14 w15 r16 v16 v17 r17 r18 r19 r20 r21 r22 v18 r23 r24 r25 v19 h2 g1 fn23)) [0, 2] (by decide) rfl
              have hKc := hK.sub (tys' := [(g1, .int)]) [1] rfl
              have hFc := va_free (wc := (wd_5013416a h0 v0 r0 v1 v2 v3 v4 r1 r2 r3 r4 r5 r6 r7 v5 v6 r8 r9 r10 r11 v7 h1 r12 v8 v9 h2 r13 v10 v11 r14 x22 v13 r15 v14 w15 r16 v16 v17 r17 r18 r19 r20 r21 r22 v18 r23 r24 r25 v19 h2 g1 fn23)) hD hS hA [0, 2] rfl
              refine va_calli (va_runV (As := [.int x13]) (rest := []) ⟨hx, hb, hml, hown, hts⟩ (k_X12_largestOn l dC dI h0 h2 v0 r0 v1 v2 v3 v4 r1 r2 r3 r4 r5 r6 r7 v5 v6 r8 r9 r10 r11 v7 h1 r12 v8 v9 r13 v10 v11 r14 x22 v13 r15 v14 w15 r16 v16 v17 r17 r18 r19 r20 r21 r22 v18 r23 r24 r25 v19 g1 fn23 x13 ⟨i_v1a, i_v1b⟩ ⟨i_v5a, i_v5b⟩ ⟨i_v6a, i_v6b⟩ ⟨i_v7a, i_v7b⟩ ⟨i_v8a, i_v8b⟩ ⟨i_v9a, i_v9b⟩ ⟨i_v10a, i_v10b⟩ ⟨i_v14a, i_v14b⟩ ⟨i_v18a, i_v18b⟩ ⟨i_v19a, i_v19b⟩ ia_fn23 H.size) (cwV 1 hts g_X12_dropAll_1 rfl rfl rfl (by decide +kernel) ⟨Nat.le_of_ble_eq_true rfl, Nat.le_of_ble_eq_true rfl⟩) (pv_PV12 hPc hKc hDc (q0 := 0) rfl) rfl rfl hl.1 rfl (lv_room (Nat.le_of_ble_eq_true rfl)) dX12_dropAll_33 ⟨Nat.le_of_ble_eq_true rfl, Nat.le_of_ble_eq_true rfl⟩) hS (fun q _ h => hFc q h) hFc (fun ra31 u t H1 locs ht hvm hwra31 hB hz1 hk1 hS => ?_)
              try rw [hwra31] at hB
              obtain ⟨pt0_ra31, pt1_ra31, pt2_ra31, hP1, hK1, hD1⟩ := hB
              rw [ht] at hP1
              obtain ⟨hP2, hD2⟩ := va_join (wr := (wd_6f8f3203 h1 g0 f20)) (w1 := (wd_5013416a h0 v0 r0 v1 v2 v3 v4 r1 r2 r3 r4 r5 r6 r7 v5 v6 r8 r9 r10 r11 v7 h1 r12 v8 v9 h2 r13 v10 v11 r14 x22 v13 r15 v14 w15 r16 v16 v17 r17 r18 r19 r20 r21 r22 v18 r23 r24 r25 v19 h2 g1 fn23)) hP hD [0, 2] [1] rfl rfl (by decide) (by decide) hk1 hFc hP1 hD1
              clear hP hD hPc hDc hKc hFc hP1 hK1 hD1 hk1 hz1
              generalize H1 = H at hP2 hS ⊢
              have hP := hP2.sub (ws' := (wd_78675856 h0 v0 r0 v1 v2 v3 v4 r1 r2 r3 r4 r5 r6 r7 v5 v6 r8 r9 r10 r11 v7 h1 r12 v8 v9 h2 r13 v10 v11 r14 x22 v13 r15 v14 w15 r16 v16 v17 r17 r18 r19 r20 r21 r22 v18 r23 r24 r25 v19 h1 g0 f20 h2 g1 fn23)) [1, 0, 2] rfl
              have hD := hD2.sub (ws' := (wd_78675856 h0 v0 r0 v1 v2 v3 v4 r1 r2 r3 r4 r5 r6 r7 v5 v6 r8 r9 r10 r11 v7 h1 r12 v8 v9 h2 r13 v10 v11 r14 x22 v13 r15 v14 w15 r16 v16 v17 r17 r18 r19 r20 r21 r22 v18 r23 r24 r25 v19 h1 g0 f20 h2 g1 fn23)) [1, 0, 2] (by decide) rfl
              clear hP2 hD2
              have hLra31 := pt2_ra31 (by first | assumption | (rcases (by assumption : _ = (0 : Int) ∨ pm_on _ _) with h9 | h9; exact absurd h9 (by omega); exact h9))
              obtain ⟨hzra31, hyra31⟩ := hLra31
              refine lv_istore_n (lv' := [(2, .int ra31), (1, .int x13), (0, .ref h0)]) hx hb dX12_dropAll_36 rfl hl (by decide) rfl (fun ls hl => ?_)
              refine lv_aload_n hx hb dX12_dropAll_37 rfl (lv_at hl 2 rfl) ?_
              refine lv_iload_n hx hb dX12_dropAll_38 rfl (lv_at hl 0 rfl) ?_
              refine lv_iconst (v := 3) hx hb dX12_dropAll_39 (by decide) ?_
              refine lv_bipush (v := 9) hx hb dX12_dropAll_40 (by decide) ?_
              have hPc := hP.sub (ws' := (wd_5013416a h0 v0 r0 v1 v2 v3 v4 r1 r2 r3 r4 r5 r6 r7 v5 v6 r8 r9 r10 r11 v7 h1 r12 v8 v9 h2 r13 v10 v11 r14 x22 v13 r15 v14 w15 r16 v16 v17 r17 r18 r19 r20 r21 r22 v18 r23 r24 r25 v19 h2 g1 fn23)) [0, 2] rfl
              have hDc := hD.sub (ws' := (wd_5013416a h0 v0 r0 v1 v2 v3 v4 r1 r2 r3 r4 r5 r6 r7 v5 v6 r8 r9 r10 r11 v7 h1 r12 v8 v9 h2 r13 v10 v11 r14 x22 v13 r15 v14 w15 r16 v16 v17 r17 r18 r19 r20 r21 r22 v18 r23 r24 r25 v19 h2 g1 fn23)) [0, 2] (by decide) rfl
              have hKc := hK.sub (tys' := [(g1, .int)]) [1] rfl
              have hFc := va_free (wc := (wd_5013416a h0 v0 r0 v1 v2 v3 v4 r1 r2 r3 r4 r5 r6 r7 v5 v6 r8 r9 r10 r11 v7 h1 r12 v8 v9 h2 r13 v10 v11 r14 x22 v13 r15 v14 w15 r16 v16 v17 r17 r18 r19 r20 r21 r22 v18 r23 r24 r25 v19 h2 g1 fn23)) hD hS hA [0, 2] rfl
              refine va_callv (va_runV (As := [.int ra31, .int 3, .int 9]) (rest := []) ⟨hx, hb, hml, hown, hts⟩ (k_X12_set_1 l dC dI h0 h2 v0 r0 v1 v2 v3 v4 r1 r2 r3 r4 r5 r6 r7 v5 v6 r8 r9 r10 r11 v7 h1 r12 v8 v9 r13 v10 v11 r14 x22 v13 r15 v14 w15 r16 v16 v17 r17 r18 r19 r20 r21 r22 v18 r23 r24 r25 v19 g1 fn23 ra31 9 ⟨i_v1a, i_v1b⟩ ⟨i_v5a, i_v5b⟩ ⟨i_v6a, i_v6b⟩ ⟨i_v7a, i_v7b⟩ ⟨i_v8a, i_v8b⟩ ⟨i_v9a, i_v9b⟩ ⟨i_v10a, i_v10b⟩ ⟨i_v14a, i_v14b⟩ ⟨i_v18a, i_v18b⟩ ⟨i_v19a, i_v19b⟩ ⟨by first | omega | decide, by first | omega | decide⟩ trivial H.size) (cwV 3 hts g_X12_dropAll_2 rfl rfl rfl (by decide +kernel) ⟨Nat.le_of_ble_eq_true rfl, Nat.le_of_ble_eq_true rfl⟩) (pv_PV12 hPc hKc hDc (q0 := 0) rfl) rfl rfl hl.1 rfl (lv_room (Nat.le_of_ble_eq_true rfl)) dX12_dropAll_42 ⟨Nat.le_of_ble_eq_true rfl, Nat.le_of_ble_eq_true rfl⟩) hS (fun q _ h => hFc q h) hFc (fun u t H1 locs ht hvm hwra32 hB hz1 hk1 hS => ?_)
              obtain ⟨hP1, hK1, hD1⟩ := hB
              rw [ht] at hP1
              obtain ⟨hP2, hD2⟩ := va_join (wr := (wd_6f8f3203 h1 g0 f20)) (w1 := (wd_5013416a h0 v0 r0 v1 v2 v3 v4 r1 r2 r3 r4 r5 r6 r7 v5 v6 r8 r9 r10 r11 v7 h1 r12 v8 v9 h2 r13 v10 v11 r14 x22 v13 r15 v14 w15 r16 v16 v17 r17 r18 r19 r20 r21 r22 v18 r23 r24 r25 v19 h2 g1 (upd fn23 (pm_I ra31 3) 9))) hP hD [0, 2] [1] rfl rfl (by decide) (by decide) hk1 hFc hP1 hD1
              clear hP hD hPc hDc hKc hFc hP1 hK1 hD1 hk1 hz1
              generalize H1 = H at hP2 hS ⊢
              have hP := hP2.sub (ws' := (wd_78675856 h0 v0 r0 v1 v2 v3 v4 r1 r2 r3 r4 r5 r6 r7 v5 v6 r8 r9 r10 r11 v7 h1 r12 v8 v9 h2 r13 v10 v11 r14 x22 v13 r15 v14 w15 r16 v16 v17 r17 r18 r19 r20 r21 r22 v18 r23 r24 r25 v19 h1 g0 f20 h2 g1 (upd fn23 (pm_I ra31 3) 9))) [1, 0, 2] rfl
              have hD := hD2.sub (ws' := (wd_78675856 h0 v0 r0 v1 v2 v3 v4 r1 r2 r3 r4 r5 r6 r7 v5 v6 r8 r9 r10 r11 v7 h1 r12 v8 v9 h2 r13 v10 v11 r14 x22 v13 r15 v14 w15 r16 v16 v17 r17 r18 r19 r20 r21 r22 v18 r23 r24 r25 v19 h1 g0 f20 h2 g1 (upd fn23 (pm_I ra31 3) 9))) [1, 0, 2] (by decide) rfl
              clear hP2 hD2
              obtain ⟨t33, et33⟩ : ∃ y : Int32, y = 8 * ra31 + 3 := ⟨_, rfl⟩
              have gt33 : t33.toInt = 8 * ra31.toInt + 3 := pm_i8 et33 rfl (by decide) (by omega) (by omega) (by omega) (by omega)
              obtain ⟨fn35, efn35⟩ : ∃ g : Nat → Int32, g = upd fn23 (Int32.toNatClampNeg t33) 9 := ⟨_, rfl⟩
              have e9 : (upd fn23 (pm_I ra31 3) 9) = fn35 := by rw [efn35, et33]; rfl
              rw [e9] at hP hD
              have ia_fn35 : pm_NW fn35 := by rw [efn35]; exact pm_NW.st ia_fn23 (z := t33.toInt) (y := 9) rfl (by decide) (by omega) (fun b9 h8 h9 => ⟨fun _ => ⟨by omega, by omega⟩, fun _ => ⟨by omega, by omega⟩⟩) (fun _ => ⟨by omega, by omega⟩) (fun b9 h8 h9 => ⟨fun _ => by omega, fun _ => by omega⟩)
              have hP : va_P (dC, dI) vwCl (wd_78675856 h0 v0 r0 v1 v2 v3 v4 r1 r2 r3 r4 r5 r6 r7 v5 v6 r8 r9 r10 r11 v7 h1 r12 v8 v9 h2 r13 v10 v11 r14 x22 v13 r15 v14 w15 r16 v16 v17 r17 r18 r19 r20 r21 r22 v18 r23 r24 r25 v19 h1 g0 f20 h2 g1 fn35) H := hP
              have hD : va_D A (wd_78675856 h0 v0 r0 v1 v2 v3 v4 r1 r2 r3 r4 r5 r6 r7 v5 v6 r8 r9 r10 r11 v7 h1 r12 v8 v9 h2 r13 v10 v11 r14 x22 v13 r15 v14 w15 r16 v16 v17 r17 r18 r19 r20 r21 r22 v18 r23 r24 r25 v19 h1 g0 f20 h2 g1 fn35) := hD
              refine lv_aload_n hx hb dX12_dropAll_45 rfl (lv_at hl 2 rfl) ?_
              refine lv_dup hx hb dX12_dropAll_46 rfl ?_
              refine va_get (D := (dC, dI)) (ci := 12) (v := .int x22) (C := RX12) (T := TX12) (N := 48) hx hb hts (fun _ h => List.mem_cons_of_mem _ (List.mem_append_right _ h)) hown hK hP 0 rfl rfl 29 (by decide) (hts (.fieldLink RX12 309 "LeftArgumentsModel" "fell" "I") (List.mem_cons_of_mem _ (List.mem_append_left _ (List.mem_of_getElem? (i := 0) rfl)))) (fun _ h9 => h9) rfl dX12_dropAll_47 ?_
              refine lv_iconst (v := 1) hx hb dX12_dropAll_50 (by decide) ?_
              refine lv_iload_n hx hb dX12_dropAll_51 rfl (lv_at hl 0 rfl) ?_
              refine lv_ishl hx hb dX12_dropAll_52 ?_
              refine lv_topi (fun t36 et36 => ?_)
              refine lv_ior hx hb dX12_dropAll_53 ?_
              refine lv_topi (fun t37 et37 => ?_)
              refine va_put (D := (dC, dI)) (ci := 12) (v := .int t37) (ty := .int) (C := RX12) (T := TX12) (N := 48) hx hb hts (fun _ h => List.mem_cons_of_mem _ (List.mem_append_right _ h)) tyX12 tyX12_ok nmX12 hown hK hP hD hS 0 rfl rfl 29 (by decide) (hts (.fieldLink RX12 309 "LeftArgumentsModel" "fell" "I") (List.mem_cons_of_mem _ (List.mem_append_left _ (List.mem_of_getElem? (i := 0) rfl)))) (fun _ h9 => h9) rfl (by decide +kernel) rfl rfl (Nat.le_of_ble_eq_true rfl) dX12_dropAll_54 (fun H locs hP hD hS => ?_)
              have hP : va_P (dC, dI) vwCl (wd_78675856 h0 v0 r0 v1 v2 v3 v4 r1 r2 r3 r4 r5 r6 r7 v5 v6 r8 r9 r10 r11 v7 h1 r12 v8 v9 h2 r13 v10 v11 r14 t37 v13 r15 v14 w15 r16 v16 v17 r17 r18 r19 r20 r21 r22 v18 r23 r24 r25 v19 h1 g0 f20 h2 g1 fn35) H := hP
              have hD : va_D A (wd_78675856 h0 v0 r0 v1 v2 v3 v4 r1 r2 r3 r4 r5 r6 r7 v5 v6 r8 r9 r10 r11 v7 h1 r12 v8 v9 h2 r13 v10 v11 r14 t37 v13 r15 v14 w15 r16 v16 v17 r17 r18 r19 r20 r21 r22 v18 r23 r24 r25 v19 h1 g0 f20 h2 g1 fn35) := hD
              refine lv_goto (tgt := 17) hx hb dX12_dropAll_57 (by decide) ?_
              exact ih_hL26 t37 fn35 H locs ls ia_fn35 (by refine Nat.lt_of_lt_of_le (pm_cnt_drop (by assumption) ?_ ?_ (by assumption) ?_) (Nat.le_of_lt_succ (by assumption)) <;> first | omega | (intro h9; have h8 := congrArg Int32.toInt h9; have h7 : ((9 : Int32)).toInt = 9 := (by decide); omega)) hP hD hS (lv_sub hl [1, 2] rfl)
        exact hL26 _ x14 fn15 H locs ls ia_fn15 (Nat.lt_succ_self _) hP hD hS (lv_sub hl [0, 1] rfl)
  exact hL19 _ 0 0 f21 H locs ls (by decide) (by decide) ia_f21 (Nat.lt_succ_self _) hP hD hS (lv_sub hl [0, 1] rfl)
def q_X12_putAside : List Cond := .code yX12_putAside cX12_putAside 3 none :: (([.fieldLink RX12 71 "LeftArgumentsModel" "aside" "[I", .fieldLink RX12 52 "LeftArgumentsModel" "now" "[I"] : List Cond) ++ wsX120)
set_option maxHeartbeats 4000000 in
set_option maxRecDepth 100000 in
theorem k_X12_putAside (l : Launch) (dC : Nat → ClassId) (dI : Nat → Nat → Nat) (h0 : Nat) (h1 : Nat) (h2 : Nat) (v0 : Int32) (r0 : Nat) (v1 : Int32) (v2 : Int32) (v3 : Int32) (v4 : Int32) (r1 : Nat) (r2 : Nat) (r3 : Nat) (r4 : Nat) (r5 : Nat) (r6 : Nat) (r7 : Nat) (v5 : Int32) (v6 : Int32) (r8 : Nat) (r9 : Nat) (r10 : Nat) (r11 : Nat) (v7 : Int32) (r12 : Nat) (r13 : Nat) (v8 : Int32) (v9 : Int32) (r14 : Nat) (v10 : Int32) (v11 : Int32) (r15 : Nat) (v12 : Int32) (v13 : Int32) (r16 : Nat) (v14 : Int32) (w15 : Int64) (v16 : Int32) (v17 : Int32) (r17 : Nat) (r18 : Nat) (r19 : Nat) (r20 : Nat) (r21 : Nat) (r22 : Nat) (v18 : Int32) (r23 : Nat) (r24 : Nat) (r25 : Nat) (v19 : Int32) (g0 : ClassId) (f20 : Nat → Int32) (g1 : ClassId) (f21 : Nat → Int32) (v22 : Int32) (i_v1 : 0 ≤ v1.toInt ∧ v1.toInt ≤ 240) (i_v5 : 0 ≤ v5.toInt ∧ v5.toInt ≤ 4) (i_v6 : 0 ≤ v6.toInt ∧ v6.toInt ≤ 4) (i_v7 : 0 ≤ v7.toInt ∧ v7.toInt ≤ 8) (i_v8 : 0 ≤ v8.toInt ∧ v8.toInt ≤ 8) (i_v9 : 0 ≤ v9.toInt ∧ v9.toInt ≤ 1) (i_v10 : -1 ≤ v10.toInt ∧ v10.toInt ≤ 3) (i_v14 : 0 ≤ v14.toInt ∧ v14.toInt ≤ 40) (i_v18 : 0 ≤ v18.toInt ∧ v18.toInt ≤ 10) (i_v19 : 0 ≤ v19.toInt ∧ v19.toInt ≤ 1) (i_v22 : 0 ≤ v22.toInt ∧ v22.toInt ≤ 7) (ia_f20 : (pm_NW f20)) (ia_f21 : (pm_AS f21)) (sz : Nat) : Met l yX12_putAside q_X12_putAside ({ frames := 0, cells := 0, slots := 0, locals := 0 }) (va_Pc [.ref h0, .int v22] (fun U => U.heap.size = sz ∧ va_P (dC, dI) vwCl (wd_04244fe9 h0 v0 r0 v1 v2 v3 v4 r1 r2 r3 r4 r5 r6 r7 v5 v6 r8 r9 r10 r11 v7 r12 r13 v8 v9 h1 r14 v10 v11 r15 v12 v13 r16 v14 w15 h2 v16 v17 r17 r18 r19 r20 r21 r22 v18 r23 r24 r25 v19 h1 g0 f20 h2 g1 f21) U.heap ∧ va_K (dC, dI) vwCl [(g0, .int), (g1, .int)] U ∧ va_D (fun _ => True) (wd_04244fe9 h0 v0 r0 v1 v2 v3 v4 r1 r2 r3 r4 r5 r6 r7 v5 v6 r8 r9 r10 r11 v7 r12 r13 v8 v9 h1 r14 v10 v11 r15 v12 v13 r16 v14 w15 h2 v16 v17 r17 r18 r19 r20 r21 r22 v18 r23 r24 r25 v19 h1 g0 f20 h2 g1 f21))) (va_Qv (fun (_ : Unit) => True) (fun (_ : Unit) (t : State) => (∃ (o_h2 : Nat → Int32), (pm_AS o_h2) ∧ va_P (dC, dI) vwCl (wd_04244fe9 h0 v0 r0 v1 v2 v3 v4 r1 r2 r3 r4 r5 r6 r7 v5 v6 r8 r9 r10 r11 v7 r12 r13 v8 v9 h1 r14 v10 v11 r15 v12 v13 r16 v14 w15 h2 v16 v17 r17 r18 r19 r20 r21 r22 v18 r23 r24 r25 v19 h1 g0 f20 h2 g1 o_h2) t.heap ∧ va_K (dC, dI) vwCl [] t ∧ va_D (va_A (wd_04244fe9 h0 v0 r0 v1 v2 v3 v4 r1 r2 r3 r4 r5 r6 r7 v5 v6 r8 r9 r10 r11 v7 r12 r13 v8 v9 h1 r14 v10 v11 r15 v12 v13 r16 v14 w15 h2 v16 v17 r17 r18 r19 r20 r21 r22 v18 r23 r24 r25 v19 h1 g0 f20 h2 g1 f21) sz) (wd_04244fe9 h0 v0 r0 v1 v2 v3 v4 r1 r2 r3 r4 r5 r6 r7 v5 v6 r8 r9 r10 r11 v7 r12 r13 v8 v9 h1 r14 v10 v11 r15 v12 v13 r16 v14 w15 h2 v16 v17 r17 r18 r19 r20 r21 r22 v18 r23 r24 r25 v19 h1 g0 f20 h2 g1 o_h2))) (va_A (wd_04244fe9 h0 v0 r0 v1 v2 v3 v4 r1 r2 r3 r4 r5 r6 r7 v5 v6 r8 r9 r10 r11 v7 r12 r13 v8 v9 h1 r14 v10 v11 r15 v12 v13 r16 v14 w15 h2 v16 v17 r17 r18 r19 r20 r21 r22 v18 r23 r24 r25 v19 h1 g0 f20 h2 g1 f21) sz)) 0 0 (va_A (wd_04244fe9 h0 v0 r0 v1 v2 v3 v4 r1 r2 r3 r4 r5 r6 r7 v5 v6 r8 r9 r10 r11 v7 r12 r13 v8 v9 h1 r14 v10 v11 r15 v12 v13 r16 v14 w15 h2 v16 v17 r17 r18 r19 r20 r21 r22 v18 r23 r24 r25 v19 h1 g0 f20 h2 g1 f21) sz) := by
  refine Met.ofW (cc := cX12_putAside) (maxL := 3) (ret := none) (by decide) rfl ?_
  intro p e s m args below meth c s₁ B hml hv
  obtain ⟨i_v1a, i_v1b⟩ := i_v1
  obtain ⟨i_v5a, i_v5b⟩ := i_v5
  obtain ⟨i_v6a, i_v6b⟩ := i_v6
  obtain ⟨i_v7a, i_v7b⟩ := i_v7
  obtain ⟨i_v8a, i_v8b⟩ := i_v8
  obtain ⟨i_v9a, i_v9b⟩ := i_v9
  obtain ⟨i_v10a, i_v10b⟩ := i_v10
  obtain ⟨i_v14a, i_v14b⟩ := i_v14
  obtain ⟨i_v18a, i_v18b⟩ := i_v18
  obtain ⟨i_v19a, i_v19b⟩ := i_v19
  obtain ⟨i_v22a, i_v22b⟩ := i_v22
  obtain ⟨rfl, hsz, hP, hK, hD0⟩ := hv
  have hx := B.exec
  have hb := B.bytes
  have hr := B.returns
  have hts := atoms_spec (ws := q_X12_putAside) B.pre
  have hown : s.vm.findClass RX12 = some m.cls := findClass_of_methodNamed B.named
  have hlocks := B.notSynchronized
  subst hsz
  have hD := hD0.self (sz := s.heap.size)
  generalize hAe : va_A (wd_04244fe9 h0 v0 r0 v1 v2 v3 v4 r1 r2 r3 r4 r5 r6 r7 v5 v6 r8 r9 r10 r11 v7 r12 r13 v8 v9 h1 r14 v10 v11 r15 v12 v13 r16 v14 w15 h2 v16 v17 r17 r18 r19 r20 r21 r22 v18 r23 r24 r25 v19 h1 g0 f20 h2 g1 f21) s.heap.size = A at hD ⊢
  have hA : ∀ q : Nat, s.heap.size ≤ q → A q := fun q h => by rw [← hAe]; exact Or.inr h
  have hS : va_S A s.heap s.heap [] := va_S.rf
  generalize hQ : (MQ below _ _ s 0 0 A) = Q
  have hl := lv_entry ([.ref h0, .int v22]) (n := 3) (Nat.le_of_ble_eq_true rfl)
  rw [lg_entry_eq]
  generalize (lg_sl ([.ref h0, .int v22]) ++ List.replicate (3 - (lg_sl ([.ref h0, .int v22])).length) Slot.unset).toArray = ls at hl ⊢
  have hl : lv_has ls 3 [(0, .ref h0), (1, .int v22)] := hl
  obtain ⟨H, hH⟩ : ∃ H : Heap, H = s.heap := ⟨_, rfl⟩
  obtain ⟨locs, hlocs⟩ : ∃ y : List Loc, y = [] := ⟨_, rfl⟩
  have hS : va_S A s.heap H locs := by rw [hH, hlocs]; exact va_S.rf
  have hP : va_P (dC, dI) vwCl (wd_04244fe9 h0 v0 r0 v1 v2 v3 v4 r1 r2 r3 r4 r5 r6 r7 v5 v6 r8 r9 r10 r11 v7 r12 r13 v8 v9 h1 r14 v10 v11 r15 v12 v13 r16 v14 w15 h2 v16 v17 r17 r18 r19 r20 r21 r22 v18 r23 r24 r25 v19 h1 g0 f20 h2 g1 f21) H := by rw [hH]; exact hP
  rw [← hH, ← hlocs]
  refine lv_iconst (v := 0) hx hb dX12_putAside_0 (by decide) ?_
  refine lv_istore_n (lv' := [(2, .int 0), (0, .ref h0), (1, .int v22)]) hx hb dX12_putAside_1 rfl hl (by decide) rfl (fun ls hl => ?_)
  have hL19 : ∀ (n9 : Nat), ∀ (x15 : Int32) (fn16 : Nat → Int32) (H : Heap) (locs : List Loc) (ls : Array Slot), 0 ≤ x15.toInt → x15.toInt ≤ 66 → (pm_ANY fn16) → (fn16 = va_cpy f20 f21 0 (66 * v22.toInt).toNat x15.toInt.toNat) → (66 - x15.toInt).toNat < n9 → va_P (dC, dI) vwCl (wd_04244fe9 h0 v0 r0 v1 v2 v3 v4 r1 r2 r3 r4 r5 r6 r7 v5 v6 r8 r9 r10 r11 v7 r12 r13 v8 v9 h1 r14 v10 v11 r15 v12 v13 r16 v14 w15 h2 v16 v17 r17 r18 r19 r20 r21 r22 v18 r23 r24 r25 v19 h1 g0 f20 h2 g1 fn16) H → va_D A (wd_04244fe9 h0 v0 r0 v1 v2 v3 v4 r1 r2 r3 r4 r5 r6 r7 v5 v6 r8 r9 r10 r11 v7 r12 r13 v8 v9 h1 r14 v10 v11 r15 v12 v13 r16 v14 w15 h2 v16 v17 r17 r18 r19 r20 r21 r22 v18 r23 r24 r25 v19 h1 g0 f20 h2 g1 fn16) → va_S A s.heap H locs → lv_has ls 3 [(2, .int x15), (0, .ref h0), (1, .int v22)] → W p l e ({ frames := 0, cells := 0, slots := 0, locals := 0 }) s m ([.ref h0, .int v22] : List Value).toArray below meth c H locs 0 0 Q (F0 m 2 ls []) := by
    intro n9
    induction n9 with
    | zero => intro x15 fn16 H locs ls qa_x15 qb_x15 ia_fn16 gh0_hL19 hm9 hP hD hS hl; exact absurd hm9 (Nat.not_lt_zero _)
    | succ n9 ih_hL19 =>
      intro x15 fn16 H locs ls qa_x15 qb_x15 ia_fn16 gh0_hL19 hm9 hP hD hS hl
      refine lv_iload_n hx hb dX12_putAside_2 rfl (lv_at hl 0 rfl) ?_
      refine lv_bipush (v := 66) hx hb dX12_putAside_3 (by decide) ?_
      refine lv_icmp_ge (tgt := 31) hx hb dX12_putAside_5 (by decide) (fun c20 => ?_) (fun c20 => ?_)
      · skip
        have fc20 : 66 ≤ x15.toInt := Int32.le_iff_toInt_le.mp c20
        subst hQ
        have ia_fn16 : pm_AS fn16 := by apply pm_AS.put <;> first | assumption | omega
        have hP9 := hP.sub (ws' := (wd_04244fe9 h0 v0 r0 v1 v2 v3 v4 r1 r2 r3 r4 r5 r6 r7 v5 v6 r8 r9 r10 r11 v7 r12 r13 v8 v9 h1 r14 v10 v11 r15 v12 v13 r16 v14 w15 h2 v16 v17 r17 r18 r19 r20 r21 r22 v18 r23 r24 r25 v19 h1 g0 f20 h2 g1 fn16)) [0, 1, 2] rfl
        have hD9 := hD.sub (ws' := (wd_04244fe9 h0 v0 r0 v1 v2 v3 v4 r1 r2 r3 r4 r5 r6 r7 v5 v6 r8 r9 r10 r11 v7 r12 r13 v8 v9 h1 r14 v10 v11 r15 v12 v13 r16 v14 w15 h2 v16 v17 r17 r18 r19 r20 r21 r22 v18 r23 r24 r25 v19 h1 g0 f20 h2 g1 fn16)) [0, 1, 2] (by decide) rfl
        have hK9 := hK.sub (tys' := []) [] rfl
        exact W.vret hx hb hr (fun t ht hW => ⟨⟨(), rfl, trivial, ⟨fn16, ia_fn16, by rw [ht]; exact hP9, va_K.moved hW.alike hK9, hD9⟩⟩, hS.F ht⟩) hS.2.2 dX12_putAside_31
      · skip
        have fc20 : ¬ (66 ≤ x15.toInt) := fun h9 => c20 (Int32.le_iff_toInt_le.mpr h9)
        refine lv_aload_n hx hb dX12_putAside_8 rfl (lv_at hl 1 rfl) ?_
        refine va_get (D := (dC, dI)) (ci := 12) (v := .ref h2) (C := RX12) (T := TX12) (N := 48) hx hb hts (fun _ h => List.mem_cons_of_mem _ (List.mem_append_right _ h)) hown hK hP 0 rfl rfl 34 (by decide) (hts (.fieldLink RX12 71 "LeftArgumentsModel" "aside" "[I") (List.mem_cons_of_mem _ (List.mem_append_left _ (List.mem_of_getElem? (i := 0) rfl)))) (fun _ h9 => h9) rfl dX12_putAside_9 ?_
        refine lv_bipush (v := 66) hx hb dX12_putAside_12 (by decide) ?_
        refine lv_iload_n hx hb dX12_putAside_14 rfl (lv_at hl 2 rfl) ?_
        refine lv_imul hx hb dX12_putAside_15 ?_
        refine lv_topi (fun t21 et21 => ?_)
        have gt21 : t21.toInt = 66 * v22.toInt := pv_mul (a := 66) (b := v22.toInt) et21 (by decide) rfl (by omega) (by omega)
        refine lv_iload_n hx hb dX12_putAside_16 rfl (lv_at hl 0 rfl) ?_
        refine lv_iadd hx hb dX12_putAside_17 ?_
        refine lv_topi (fun t22 et22 => ?_)
        have gt22 : t22.toInt = t21.toInt + x15.toInt := pv_add (a := t21.toInt) (b := x15.toInt) et22 rfl rfl (by omega) (by omega)
        refine lv_aload_n hx hb dX12_putAside_18 rfl (lv_at hl 1 rfl) ?_
        refine va_get (D := (dC, dI)) (ci := 12) (v := .ref h1) (C := RX12) (T := TX12) (N := 48) hx hb hts (fun _ h => List.mem_cons_of_mem _ (List.mem_append_right _ h)) hown hK hP 0 rfl rfl 24 (by decide) (hts (.fieldLink RX12 52 "LeftArgumentsModel" "now" "[I") (List.mem_cons_of_mem _ (List.mem_append_left _ (List.mem_of_getElem? (i := 1) rfl)))) (fun _ h9 => h9) rfl dX12_putAside_19 ?_
        refine lv_iload_n hx hb dX12_putAside_22 rfl (lv_at hl 0 rfl) ?_
        refine va_iald hx hb hK hP 1 0 rfl rfl (vp_in_iff.mpr ⟨by omega, by omega⟩) dX12_putAside_23 ?_
        refine lv_topi (fun t23 et23 => ?_)
        refine va_iast hx hb hK hP hD hS 2 1 rfl rfl (vp_in_iff.mpr ⟨by omega, by omega⟩) dX12_putAside_24 (fun H locs hP hD hS => ?_)
        obtain ⟨fn24, efn24⟩ : ∃ g : Nat → Int32, g = upd fn16 (Int32.toNatClampNeg t22) t23 := ⟨_, rfl⟩
        rw [← efn24] at hP hD
        have ia_fn24 : pm_ANY fn24 := trivial
        have hP : va_P (dC, dI) vwCl (wd_04244fe9 h0 v0 r0 v1 v2 v3 v4 r1 r2 r3 r4 r5 r6 r7 v5 v6 r8 r9 r10 r11 v7 r12 r13 v8 v9 h1 r14 v10 v11 r15 v12 v13 r16 v14 w15 h2 v16 v17 r17 r18 r19 r20 r21 r22 v18 r23 r24 r25 v19 h1 g0 f20 h2 g1 fn24) H := hP
        have hD : va_D A (wd_04244fe9 h0 v0 r0 v1 v2 v3 v4 r1 r2 r3 r4 r5 r6 r7 v5 v6 r8 r9 r10 r11 v7 r12 r13 v8 v9 h1 r14 v10 v11 r15 v12 v13 r16 v14 w15 h2 v16 v17 r17 r18 r19 r20 r21 r22 v18 r23 r24 r25 v19 h1 g0 f20 h2 g1 fn24) := hD
        obtain ⟨t25, et25⟩ : ∃ y : Int32, y = x15 + 1 := ⟨_, rfl⟩
        have gt25 : t25.toInt = x15.toInt + (1) := pv_add (a := x15.toInt) (b := (1)) et25 rfl (by decide) (by omega) (by omega)
        refine lv_iinc (v := t25) (lv' := [(2, .int t25), (0, .ref h0), (1, .int v22)]) hx hb dX12_putAside_25 hl (k := 0) rfl (by rw [et25]; rfl) (by decide) rfl (fun ls hl => ?_)
        refine lv_goto (tgt := 2) hx hb dX12_putAside_28 (by decide) ?_
        exact ih_hL19 t25 fn24 H locs ls (by first | omega | decide) (by first | omega | decide) ia_fn24 (by first | exact pm_cp.zero (by decide) | (apply pm_cp.step <;> first | assumption | omega)) (by first | omega | (simp only [Int.toNat] at *; omega)) hP hD hS (lv_sub hl [0, 1, 2] rfl)
  exact hL19 _ 0 f21 H locs ls (by decide) (by decide) trivial (by first | exact pm_cp.zero (by decide) | (apply pm_cp.step <;> first | assumption | omega)) (Nat.lt_succ_self _) hP hD hS (lv_sub hl [0, 1, 2] rfl)
def q_X12_takeBack : List Cond := .code yX12_takeBack cX12_takeBack 3 none :: (([.fieldLink RX12 52 "LeftArgumentsModel" "now" "[I", .fieldLink RX12 71 "LeftArgumentsModel" "aside" "[I"] : List Cond) ++ wsX120)
set_option maxHeartbeats 4000000 in
set_option maxRecDepth 100000 in
theorem k_X12_takeBack (l : Launch) (dC : Nat → ClassId) (dI : Nat → Nat → Nat) (h0 : Nat) (h1 : Nat) (h2 : Nat) (v0 : Int32) (r0 : Nat) (v1 : Int32) (v2 : Int32) (v3 : Int32) (v4 : Int32) (r1 : Nat) (r2 : Nat) (r3 : Nat) (r4 : Nat) (r5 : Nat) (r6 : Nat) (r7 : Nat) (v5 : Int32) (v6 : Int32) (r8 : Nat) (r9 : Nat) (r10 : Nat) (r11 : Nat) (v7 : Int32) (r12 : Nat) (r13 : Nat) (v8 : Int32) (v9 : Int32) (r14 : Nat) (v10 : Int32) (v11 : Int32) (r15 : Nat) (v12 : Int32) (v13 : Int32) (r16 : Nat) (v14 : Int32) (w15 : Int64) (v16 : Int32) (v17 : Int32) (r17 : Nat) (r18 : Nat) (r19 : Nat) (r20 : Nat) (r21 : Nat) (r22 : Nat) (v18 : Int32) (r23 : Nat) (r24 : Nat) (r25 : Nat) (v19 : Int32) (g0 : ClassId) (f20 : Nat → Int32) (g1 : ClassId) (f21 : Nat → Int32) (v22 : Int32) (i_v1 : 0 ≤ v1.toInt ∧ v1.toInt ≤ 240) (i_v5 : 0 ≤ v5.toInt ∧ v5.toInt ≤ 4) (i_v6 : 0 ≤ v6.toInt ∧ v6.toInt ≤ 4) (i_v7 : 0 ≤ v7.toInt ∧ v7.toInt ≤ 8) (i_v8 : 0 ≤ v8.toInt ∧ v8.toInt ≤ 8) (i_v9 : 0 ≤ v9.toInt ∧ v9.toInt ≤ 1) (i_v10 : -1 ≤ v10.toInt ∧ v10.toInt ≤ 3) (i_v14 : 0 ≤ v14.toInt ∧ v14.toInt ≤ 40) (i_v18 : 0 ≤ v18.toInt ∧ v18.toInt ≤ 10) (i_v19 : 0 ≤ v19.toInt ∧ v19.toInt ≤ 1) (i_v22 : 0 ≤ v22.toInt ∧ v22.toInt ≤ 7) (ia_f20 : (pm_NW0 f20)) (ia_f21 : (pm_AS f21)) (sz : Nat) : Met l yX12_takeBack q_X12_takeBack ({ frames := 0, cells := 0, slots := 0, locals := 0 }) (va_Pc [.ref h0, .int v22] (fun U => U.heap.size = sz ∧ va_P (dC, dI) vwCl (wd_04244fe9 h0 v0 r0 v1 v2 v3 v4 r1 r2 r3 r4 r5 r6 r7 v5 v6 r8 r9 r10 r11 v7 r12 r13 v8 v9 h1 r14 v10 v11 r15 v12 v13 r16 v14 w15 h2 v16 v17 r17 r18 r19 r20 r21 r22 v18 r23 r24 r25 v19 h1 g0 f20 h2 g1 f21) U.heap ∧ va_K (dC, dI) vwCl [(g0, .int), (g1, .int)] U ∧ va_D (fun _ => True) (wd_04244fe9 h0 v0 r0 v1 v2 v3 v4 r1 r2 r3 r4 r5 r6 r7 v5 v6 r8 r9 r10 r11 v7 r12 r13 v8 v9 h1 r14 v10 v11 r15 v12 v13 r16 v14 w15 h2 v16 v17 r17 r18 r19 r20 r21 r22 v18 r23 r24 r25 v19 h1 g0 f20 h2 g1 f21))) (va_Qv (fun (_ : Unit) => True) (fun (_ : Unit) (t : State) => (∃ (o_h1 : Nat → Int32), (pm_NW o_h1) ∧ va_P (dC, dI) vwCl (wd_04244fe9 h0 v0 r0 v1 v2 v3 v4 r1 r2 r3 r4 r5 r6 r7 v5 v6 r8 r9 r10 r11 v7 r12 r13 v8 v9 h1 r14 v10 v11 r15 v12 v13 r16 v14 w15 h2 v16 v17 r17 r18 r19 r20 r21 r22 v18 r23 r24 r25 v19 h1 g0 o_h1 h2 g1 f21) t.heap ∧ va_K (dC, dI) vwCl [] t ∧ va_D (va_A (wd_04244fe9 h0 v0 r0 v1 v2 v3 v4 r1 r2 r3 r4 r5 r6 r7 v5 v6 r8 r9 r10 r11 v7 r12 r13 v8 v9 h1 r14 v10 v11 r15 v12 v13 r16 v14 w15 h2 v16 v17 r17 r18 r19 r20 r21 r22 v18 r23 r24 r25 v19 h1 g0 f20 h2 g1 f21) sz) (wd_04244fe9 h0 v0 r0 v1 v2 v3 v4 r1 r2 r3 r4 r5 r6 r7 v5 v6 r8 r9 r10 r11 v7 r12 r13 v8 v9 h1 r14 v10 v11 r15 v12 v13 r16 v14 w15 h2 v16 v17 r17 r18 r19 r20 r21 r22 v18 r23 r24 r25 v19 h1 g0 o_h1 h2 g1 f21))) (va_A (wd_04244fe9 h0 v0 r0 v1 v2 v3 v4 r1 r2 r3 r4 r5 r6 r7 v5 v6 r8 r9 r10 r11 v7 r12 r13 v8 v9 h1 r14 v10 v11 r15 v12 v13 r16 v14 w15 h2 v16 v17 r17 r18 r19 r20 r21 r22 v18 r23 r24 r25 v19 h1 g0 f20 h2 g1 f21) sz)) 0 0 (va_A (wd_04244fe9 h0 v0 r0 v1 v2 v3 v4 r1 r2 r3 r4 r5 r6 r7 v5 v6 r8 r9 r10 r11 v7 r12 r13 v8 v9 h1 r14 v10 v11 r15 v12 v13 r16 v14 w15 h2 v16 v17 r17 r18 r19 r20 r21 r22 v18 r23 r24 r25 v19 h1 g0 f20 h2 g1 f21) sz) := by
  refine Met.ofW (cc := cX12_takeBack) (maxL := 3) (ret := none) (by decide) rfl ?_
  intro p e s m args below meth c s₁ B hml hv
  obtain ⟨i_v1a, i_v1b⟩ := i_v1
  obtain ⟨i_v5a, i_v5b⟩ := i_v5
  obtain ⟨i_v6a, i_v6b⟩ := i_v6
  obtain ⟨i_v7a, i_v7b⟩ := i_v7
  obtain ⟨i_v8a, i_v8b⟩ := i_v8
  obtain ⟨i_v9a, i_v9b⟩ := i_v9
  obtain ⟨i_v10a, i_v10b⟩ := i_v10
  obtain ⟨i_v14a, i_v14b⟩ := i_v14
  obtain ⟨i_v18a, i_v18b⟩ := i_v18
  obtain ⟨i_v19a, i_v19b⟩ := i_v19
  obtain ⟨i_v22a, i_v22b⟩ := i_v22
  obtain ⟨rfl, hsz, hP, hK, hD0⟩ := hv
  have hx := B.exec
  have hb := B.bytes
  have hr := B.returns
  have hts := atoms_spec (ws := q_X12_takeBack) B.pre
  have hown : s.vm.findClass RX12 = some m.cls := findClass_of_methodNamed B.named
  have hlocks := B.notSynchronized
  subst hsz
  have hD := hD0.self (sz := s.heap.size)
  generalize hAe : va_A (wd_04244fe9 h0 v0 r0 v1 v2 v3 v4 r1 r2 r3 r4 r5 r6 r7 v5 v6 r8 r9 r10 r11 v7 r12 r13 v8 v9 h1 r14 v10 v11 r15 v12 v13 r16 v14 w15 h2 v16 v17 r17 r18 r19 r20 r21 r22 v18 r23 r24 r25 v19 h1 g0 f20 h2 g1 f21) s.heap.size = A at hD ⊢
  have hA : ∀ q : Nat, s.heap.size ≤ q → A q := fun q h => by rw [← hAe]; exact Or.inr h
  have hS : va_S A s.heap s.heap [] := va_S.rf
  generalize hQ : (MQ below _ _ s 0 0 A) = Q
  have hl := lv_entry ([.ref h0, .int v22]) (n := 3) (Nat.le_of_ble_eq_true rfl)
  rw [lg_entry_eq]
  generalize (lg_sl ([.ref h0, .int v22]) ++ List.replicate (3 - (lg_sl ([.ref h0, .int v22])).length) Slot.unset).toArray = ls at hl ⊢
  have hl : lv_has ls 3 [(0, .ref h0), (1, .int v22)] := hl
  obtain ⟨H, hH⟩ : ∃ H : Heap, H = s.heap := ⟨_, rfl⟩
  obtain ⟨locs, hlocs⟩ : ∃ y : List Loc, y = [] := ⟨_, rfl⟩
  have hS : va_S A s.heap H locs := by rw [hH, hlocs]; exact va_S.rf
  have hP : va_P (dC, dI) vwCl (wd_04244fe9 h0 v0 r0 v1 v2 v3 v4 r1 r2 r3 r4 r5 r6 r7 v5 v6 r8 r9 r10 r11 v7 r12 r13 v8 v9 h1 r14 v10 v11 r15 v12 v13 r16 v14 w15 h2 v16 v17 r17 r18 r19 r20 r21 r22 v18 r23 r24 r25 v19 h1 g0 f20 h2 g1 f21) H := by rw [hH]; exact hP
  rw [← hH, ← hlocs]
  refine lv_iconst (v := 0) hx hb dX12_takeBack_0 (by decide) ?_
  refine lv_istore_n (lv' := [(2, .int 0), (0, .ref h0), (1, .int v22)]) hx hb dX12_takeBack_1 rfl hl (by decide) rfl (fun ls hl => ?_)
  have hL19 : ∀ (n9 : Nat), ∀ (x15 : Int32) (fn16 : Nat → Int32) (H : Heap) (locs : List Loc) (ls : Array Slot), 0 ≤ x15.toInt → x15.toInt ≤ 66 → (pm_ANY fn16) → (fn16 = va_cpy f21 f20 (66 * v22.toInt).toNat 0 x15.toInt.toNat) → (66 - x15.toInt).toNat < n9 → va_P (dC, dI) vwCl (wd_04244fe9 h0 v0 r0 v1 v2 v3 v4 r1 r2 r3 r4 r5 r6 r7 v5 v6 r8 r9 r10 r11 v7 r12 r13 v8 v9 h1 r14 v10 v11 r15 v12 v13 r16 v14 w15 h2 v16 v17 r17 r18 r19 r20 r21 r22 v18 r23 r24 r25 v19 h1 g0 fn16 h2 g1 f21) H → va_D A (wd_04244fe9 h0 v0 r0 v1 v2 v3 v4 r1 r2 r3 r4 r5 r6 r7 v5 v6 r8 r9 r10 r11 v7 r12 r13 v8 v9 h1 r14 v10 v11 r15 v12 v13 r16 v14 w15 h2 v16 v17 r17 r18 r19 r20 r21 r22 v18 r23 r24 r25 v19 h1 g0 fn16 h2 g1 f21) → va_S A s.heap H locs → lv_has ls 3 [(2, .int x15), (0, .ref h0), (1, .int v22)] → W p l e ({ frames := 0, cells := 0, slots := 0, locals := 0 }) s m ([.ref h0, .int v22] : List Value).toArray below meth c H locs 0 0 Q (F0 m 2 ls []) := by
    intro n9
    induction n9 with
    | zero => intro x15 fn16 H locs ls qa_x15 qb_x15 ia_fn16 gh0_hL19 hm9 hP hD hS hl; exact absurd hm9 (Nat.not_lt_zero _)
    | succ n9 ih_hL19 =>
      intro x15 fn16 H locs ls qa_x15 qb_x15 ia_fn16 gh0_hL19 hm9 hP hD hS hl
      refine lv_iload_n hx hb dX12_takeBack_2 rfl (lv_at hl 0 rfl) ?_
      refine lv_bipush (v := 66) hx hb dX12_takeBack_3 (by decide) ?_
      refine lv_icmp_ge (tgt := 31) hx hb dX12_takeBack_5 (by decide) (fun c20 => ?_) (fun c20 => ?_)
      · skip
        have fc20 : 66 ≤ x15.toInt := Int32.le_iff_toInt_le.mp c20
        subst hQ
        have ia_fn16 : pm_NW fn16 := by apply pm_AS.get <;> first | assumption | omega
        have hP9 := hP.sub (ws' := (wd_04244fe9 h0 v0 r0 v1 v2 v3 v4 r1 r2 r3 r4 r5 r6 r7 v5 v6 r8 r9 r10 r11 v7 r12 r13 v8 v9 h1 r14 v10 v11 r15 v12 v13 r16 v14 w15 h2 v16 v17 r17 r18 r19 r20 r21 r22 v18 r23 r24 r25 v19 h1 g0 fn16 h2 g1 f21)) [0, 1, 2] rfl
        have hD9 := hD.sub (ws' := (wd_04244fe9 h0 v0 r0 v1 v2 v3 v4 r1 r2 r3 r4 r5 r6 r7 v5 v6 r8 r9 r10 r11 v7 r12 r13 v8 v9 h1 r14 v10 v11 r15 v12 v13 r16 v14 w15 h2 v16 v17 r17 r18 r19 r20 r21 r22 v18 r23 r24 r25 v19 h1 g0 fn16 h2 g1 f21)) [0, 1, 2] (by decide) rfl
        have hK9 := hK.sub (tys' := []) [] rfl
        exact W.vret hx hb hr (fun t ht hW => ⟨⟨(), rfl, trivial, ⟨fn16, ia_fn16, by rw [ht]; exact hP9, va_K.moved hW.alike hK9, hD9⟩⟩, hS.F ht⟩) hS.2.2 dX12_takeBack_31
      · skip
        have fc20 : ¬ (66 ≤ x15.toInt) := fun h9 => c20 (Int32.le_iff_toInt_le.mpr h9)
        refine lv_aload_n hx hb dX12_takeBack_8 rfl (lv_at hl 1 rfl) ?_
        refine va_get (D := (dC, dI)) (ci := 12) (v := .ref h1) (C := RX12) (T := TX12) (N := 48) hx hb hts (fun _ h => List.mem_cons_of_mem _ (List.mem_append_right _ h)) hown hK hP 0 rfl rfl 24 (by decide) (hts (.fieldLink RX12 52 "LeftArgumentsModel" "now" "[I") (List.mem_cons_of_mem _ (List.mem_append_left _ (List.mem_of_getElem? (i := 0) rfl)))) (fun _ h9 => h9) rfl dX12_takeBack_9 ?_
        refine lv_iload_n hx hb dX12_takeBack_12 rfl (lv_at hl 0 rfl) ?_
        refine lv_aload_n hx hb dX12_takeBack_13 rfl (lv_at hl 1 rfl) ?_
        refine va_get (D := (dC, dI)) (ci := 12) (v := .ref h2) (C := RX12) (T := TX12) (N := 48) hx hb hts (fun _ h => List.mem_cons_of_mem _ (List.mem_append_right _ h)) hown hK hP 0 rfl rfl 34 (by decide) (hts (.fieldLink RX12 71 "LeftArgumentsModel" "aside" "[I") (List.mem_cons_of_mem _ (List.mem_append_left _ (List.mem_of_getElem? (i := 1) rfl)))) (fun _ h9 => h9) rfl dX12_takeBack_14 ?_
        refine lv_bipush (v := 66) hx hb dX12_takeBack_17 (by decide) ?_
        refine lv_iload_n hx hb dX12_takeBack_19 rfl (lv_at hl 2 rfl) ?_
        refine lv_imul hx hb dX12_takeBack_20 ?_
        refine lv_topi (fun t21 et21 => ?_)
        have gt21 : t21.toInt = 66 * v22.toInt := pv_mul (a := 66) (b := v22.toInt) et21 (by decide) rfl (by omega) (by omega)
        refine lv_iload_n hx hb dX12_takeBack_21 rfl (lv_at hl 0 rfl) ?_
        refine lv_iadd hx hb dX12_takeBack_22 ?_
        refine lv_topi (fun t22 et22 => ?_)
        have gt22 : t22.toInt = t21.toInt + x15.toInt := pv_add (a := t21.toInt) (b := x15.toInt) et22 rfl rfl (by omega) (by omega)
        refine va_iald hx hb hK hP 2 1 rfl rfl (vp_in_iff.mpr ⟨by omega, by omega⟩) dX12_takeBack_23 ?_
        refine lv_topi (fun t23 et23 => ?_)
        refine va_iast hx hb hK hP hD hS 1 0 rfl rfl (vp_in_iff.mpr ⟨by omega, by omega⟩) dX12_takeBack_24 (fun H locs hP hD hS => ?_)
        obtain ⟨fn24, efn24⟩ : ∃ g : Nat → Int32, g = upd fn16 (Int32.toNatClampNeg x15) t23 := ⟨_, rfl⟩
        rw [← efn24] at hP hD
        have ia_fn24 : pm_ANY fn24 := trivial
        have hP : va_P (dC, dI) vwCl (wd_04244fe9 h0 v0 r0 v1 v2 v3 v4 r1 r2 r3 r4 r5 r6 r7 v5 v6 r8 r9 r10 r11 v7 r12 r13 v8 v9 h1 r14 v10 v11 r15 v12 v13 r16 v14 w15 h2 v16 v17 r17 r18 r19 r20 r21 r22 v18 r23 r24 r25 v19 h1 g0 fn24 h2 g1 f21) H := hP
        have hD : va_D A (wd_04244fe9 h0 v0 r0 v1 v2 v3 v4 r1 r2 r3 r4 r5 r6 r7 v5 v6 r8 r9 r10 r11 v7 r12 r13 v8 v9 h1 r14 v10 v11 r15 v12 v13 r16 v14 w15 h2 v16 v17 r17 r18 r19 r20 r21 r22 v18 r23 r24 r25 v19 h1 g0 fn24 h2 g1 f21) := hD
        obtain ⟨t25, et25⟩ : ∃ y : Int32, y = x15 + 1 := ⟨_, rfl⟩
        have gt25 : t25.toInt = x15.toInt + (1) := pv_add (a := x15.toInt) (b := (1)) et25 rfl (by decide) (by omega) (by omega)
        refine lv_iinc (v := t25) (lv' := [(2, .int t25), (0, .ref h0), (1, .int v22)]) hx hb dX12_takeBack_25 hl (k := 0) rfl (by rw [et25]; rfl) (by decide) rfl (fun ls hl => ?_)
        refine lv_goto (tgt := 2) hx hb dX12_takeBack_28 (by decide) ?_
        exact ih_hL19 t25 fn24 H locs ls (by first | omega | decide) (by first | omega | decide) ia_fn24 (by first | exact pm_cp.zero (by decide) | (apply pm_cp.step <;> first | assumption | omega)) (by first | omega | (simp only [Int.toNat] at *; omega)) hP hD hS (lv_sub hl [0, 1, 2] rfl)
  exact hL19 _ 0 f20 H locs ls (by decide) (by decide) trivial (by first | exact pm_cp.zero (by decide) | (apply pm_cp.step <;> first | assumption | omega)) (Nat.lt_succ_self _) hP hD hS (lv_sub hl [0, 1, 2] rfl)
def q_X12_keep : List Cond := .code yX12_keep cX12_keep 2 none :: (([.fieldLink RX12 275 "LeftArgumentsModel" "acts" "I", .fieldLink RX12 68 "LeftArgumentsModel" "kept" "[I", .fieldLink RX12 52 "LeftArgumentsModel" "now" "[I"] : List Cond) ++ wsX120)
set_option maxHeartbeats 4000000 in
set_option maxRecDepth 100000 in
theorem k_X12_keep (l : Launch) (dC : Nat → ClassId) (dI : Nat → Nat → Nat) (h0 : Nat) (h1 : Nat) (h2 : Nat) (v0 : Int32) (r0 : Nat) (v1 : Int32) (v2 : Int32) (v3 : Int32) (v4 : Int32) (r1 : Nat) (r2 : Nat) (r3 : Nat) (r4 : Nat) (r5 : Nat) (r6 : Nat) (r7 : Nat) (v5 : Int32) (v6 : Int32) (r8 : Nat) (r9 : Nat) (r10 : Nat) (r11 : Nat) (v7 : Int32) (r12 : Nat) (r13 : Nat) (v8 : Int32) (v9 : Int32) (r14 : Nat) (v10 : Int32) (v11 : Int32) (r15 : Nat) (v12 : Int32) (v13 : Int32) (v14 : Int32) (w15 : Int64) (r16 : Nat) (v16 : Int32) (v17 : Int32) (r17 : Nat) (r18 : Nat) (r19 : Nat) (r20 : Nat) (r21 : Nat) (r22 : Nat) (v18 : Int32) (r23 : Nat) (r24 : Nat) (r25 : Nat) (v19 : Int32) (g0 : ClassId) (f20 : Nat → Int32) (g1 : ClassId) (f21 : Nat → Int32) (i_v1 : 0 ≤ v1.toInt ∧ v1.toInt ≤ 240) (i_v5 : 0 ≤ v5.toInt ∧ v5.toInt ≤ 4) (i_v6 : 0 ≤ v6.toInt ∧ v6.toInt ≤ 4) (i_v7 : 0 ≤ v7.toInt ∧ v7.toInt ≤ 8) (i_v8 : 0 ≤ v8.toInt ∧ v8.toInt ≤ 8) (i_v9 : 0 ≤ v9.toInt ∧ v9.toInt ≤ 1) (i_v10 : -1 ≤ v10.toInt ∧ v10.toInt ≤ 3) (i_v14 : 0 ≤ v14.toInt ∧ v14.toInt ≤ 40) (i_v18 : 0 ≤ v18.toInt ∧ v18.toInt ≤ 10) (i_v19 : 0 ≤ v19.toInt ∧ v19.toInt ≤ 1) (ia_f20 : (pm_NW f20)) (ia_f21 : (pm_KP f21)) (sz : Nat) : Met l yX12_keep q_X12_keep ({ frames := 0, cells := 0, slots := 0, locals := 0 }) (va_Pc [.ref h0] (fun U => U.heap.size = sz ∧ va_P (dC, dI) vwCl (wd_baa7feb8 h0 v0 r0 v1 v2 v3 v4 r1 r2 r3 r4 r5 r6 r7 v5 v6 r8 r9 r10 r11 v7 r12 r13 v8 v9 h1 r14 v10 v11 r15 v12 v13 h2 v14 w15 r16 v16 v17 r17 r18 r19 r20 r21 r22 v18 r23 r24 r25 v19 h1 g0 f20 h2 g1 f21) U.heap ∧ va_K (dC, dI) vwCl [(g0, .int), (g1, .int)] U ∧ va_D (fun _ => True) (wd_baa7feb8 h0 v0 r0 v1 v2 v3 v4 r1 r2 r3 r4 r5 r6 r7 v5 v6 r8 r9 r10 r11 v7 r12 r13 v8 v9 h1 r14 v10 v11 r15 v12 v13 h2 v14 w15 r16 v16 v17 r17 r18 r19 r20 r21 r22 v18 r23 r24 r25 v19 h1 g0 f20 h2 g1 f21))) (va_Qv (fun (_ : Unit) => True) (fun (_ : Unit) (t : State) => (∃ (o_h0_32 : Int32) (o_h2 : Nat → Int32), 1 ≤ o_h0_32.toInt ∧ o_h0_32.toInt ≤ 40 ∧ (pm_KP o_h2) ∧ va_P (dC, dI) vwCl (wd_baa7feb8 h0 v0 r0 v1 v2 v3 v4 r1 r2 r3 r4 r5 r6 r7 v5 v6 r8 r9 r10 r11 v7 r12 r13 v8 v9 h1 r14 v10 v11 r15 v12 v13 h2 o_h0_32 w15 r16 v16 v17 r17 r18 r19 r20 r21 r22 v18 r23 r24 r25 v19 h1 g0 f20 h2 g1 o_h2) t.heap ∧ va_K (dC, dI) vwCl [] t ∧ va_D (va_A (wd_baa7feb8 h0 v0 r0 v1 v2 v3 v4 r1 r2 r3 r4 r5 r6 r7 v5 v6 r8 r9 r10 r11 v7 r12 r13 v8 v9 h1 r14 v10 v11 r15 v12 v13 h2 v14 w15 r16 v16 v17 r17 r18 r19 r20 r21 r22 v18 r23 r24 r25 v19 h1 g0 f20 h2 g1 f21) sz) (wd_baa7feb8 h0 v0 r0 v1 v2 v3 v4 r1 r2 r3 r4 r5 r6 r7 v5 v6 r8 r9 r10 r11 v7 r12 r13 v8 v9 h1 r14 v10 v11 r15 v12 v13 h2 o_h0_32 w15 r16 v16 v17 r17 r18 r19 r20 r21 r22 v18 r23 r24 r25 v19 h1 g0 f20 h2 g1 o_h2))) (va_A (wd_baa7feb8 h0 v0 r0 v1 v2 v3 v4 r1 r2 r3 r4 r5 r6 r7 v5 v6 r8 r9 r10 r11 v7 r12 r13 v8 v9 h1 r14 v10 v11 r15 v12 v13 h2 v14 w15 r16 v16 v17 r17 r18 r19 r20 r21 r22 v18 r23 r24 r25 v19 h1 g0 f20 h2 g1 f21) sz)) 0 0 (va_A (wd_baa7feb8 h0 v0 r0 v1 v2 v3 v4 r1 r2 r3 r4 r5 r6 r7 v5 v6 r8 r9 r10 r11 v7 r12 r13 v8 v9 h1 r14 v10 v11 r15 v12 v13 h2 v14 w15 r16 v16 v17 r17 r18 r19 r20 r21 r22 v18 r23 r24 r25 v19 h1 g0 f20 h2 g1 f21) sz) := by
  refine Met.ofW (cc := cX12_keep) (maxL := 2) (ret := none) (by decide) rfl ?_
  intro p e s m args below meth c s₁ B hml hv
  obtain ⟨i_v1a, i_v1b⟩ := i_v1
  obtain ⟨i_v5a, i_v5b⟩ := i_v5
  obtain ⟨i_v6a, i_v6b⟩ := i_v6
  obtain ⟨i_v7a, i_v7b⟩ := i_v7
  obtain ⟨i_v8a, i_v8b⟩ := i_v8
  obtain ⟨i_v9a, i_v9b⟩ := i_v9
  obtain ⟨i_v10a, i_v10b⟩ := i_v10
  obtain ⟨i_v14a, i_v14b⟩ := i_v14
  obtain ⟨i_v18a, i_v18b⟩ := i_v18
  obtain ⟨i_v19a, i_v19b⟩ := i_v19
  obtain ⟨rfl, hsz, hP, hK, hD0⟩ := hv
  have hx := B.exec
  have hb := B.bytes
  have hr := B.returns
  have hts := atoms_spec (ws := q_X12_keep) B.pre
  have hown : s.vm.findClass RX12 = some m.cls := findClass_of_methodNamed B.named
  have hlocks := B.notSynchronized
  subst hsz
  have hD := hD0.self (sz := s.heap.size)
  generalize hAe : va_A (wd_baa7feb8 h0 v0 r0 v1 v2 v3 v4 r1 r2 r3 r4 r5 r6 r7 v5 v6 r8 r9 r10 r11 v7 r12 r13 v8 v9 h1 r14 v10 v11 r15 v12 v13 h2 v14 w15 r16 v16 v17 r17 r18 r19 r20 r21 r22 v18 r23 r24 r25 v19 h1 g0 f20 h2 g1 f21) s.heap.size = A at hD ⊢
  have hA : ∀ q : Nat, s.heap.size ≤ q → A q := fun q h => by rw [← hAe]; exact Or.inr h
  have hS : va_S A s.heap s.heap [] := va_S.rf
  generalize hQ : (MQ below _ _ s 0 0 A) = Q
  have hl := lv_entry ([.ref h0]) (n := 2) (Nat.le_of_ble_eq_true rfl)
  rw [lg_entry_eq]
  generalize (lg_sl ([.ref h0]) ++ List.replicate (2 - (lg_sl ([.ref h0])).length) Slot.unset).toArray = ls at hl ⊢
  have hl : lv_has ls 2 [(0, .ref h0)] := hl
  obtain ⟨H, hH⟩ : ∃ H : Heap, H = s.heap := ⟨_, rfl⟩
  obtain ⟨locs, hlocs⟩ : ∃ y : List Loc, y = [] := ⟨_, rfl⟩
  have hS : va_S A s.heap H locs := by rw [hH, hlocs]; exact va_S.rf
  have hP : va_P (dC, dI) vwCl (wd_baa7feb8 h0 v0 r0 v1 v2 v3 v4 r1 r2 r3 r4 r5 r6 r7 v5 v6 r8 r9 r10 r11 v7 r12 r13 v8 v9 h1 r14 v10 v11 r15 v12 v13 h2 v14 w15 r16 v16 v17 r17 r18 r19 r20 r21 r22 v18 r23 r24 r25 v19 h1 g0 f20 h2 g1 f21) H := by rw [hH]; exact hP
  rw [← hH, ← hlocs]
  refine lv_aload_n hx hb dX12_keep_0 rfl (lv_at hl 0 rfl) ?_
  refine va_get (D := (dC, dI)) (ci := 12) (v := .int v14) (C := RX12) (T := TX12) (N := 48) hx hb hts (fun _ h => List.mem_cons_of_mem _ (List.mem_append_right _ h)) hown hK hP 0 rfl rfl 32 (by decide) (hts (.fieldLink RX12 275 "LeftArgumentsModel" "acts" "I") (List.mem_cons_of_mem _ (List.mem_append_left _ (List.mem_of_getElem? (i := 0) rfl)))) (fun _ h9 => h9) rfl dX12_keep_1 ?_
  refine lv_bipush (v := 40) hx hb dX12_keep_4 (by decide) ?_
  have hJ3 : ∀ (x1 : Int32) (fn2 : Nat → Int32) (H : Heap) (locs : List Loc) (ls : Array Slot), 0 ≤ x1.toInt → x1.toInt ≤ 39 → (pm_KP fn2) → va_P (dC, dI) vwCl (wd_baa7feb8 h0 v0 r0 v1 v2 v3 v4 r1 r2 r3 r4 r5 r6 r7 v5 v6 r8 r9 r10 r11 v7 r12 r13 v8 v9 h1 r14 v10 v11 r15 v12 v13 h2 x1 w15 r16 v16 v17 r17 r18 r19 r20 r21 r22 v18 r23 r24 r25 v19 h1 g0 f20 h2 g1 fn2) H → va_D A (wd_baa7feb8 h0 v0 r0 v1 v2 v3 v4 r1 r2 r3 r4 r5 r6 r7 v5 v6 r8 r9 r10 r11 v7 r12 r13 v8 v9 h1 r14 v10 v11 r15 v12 v13 h2 x1 w15 r16 v16 v17 r17 r18 r19 r20 r21 r22 v18 r23 r24 r25 v19 h1 g0 f20 h2 g1 fn2) → va_S A s.heap H locs → lv_has ls 2 [(0, .ref h0)] → W p l e ({ frames := 0, cells := 0, slots := 0, locals := 0 }) s m ([.ref h0] : List Value).toArray below meth c H locs 0 0 Q (F0 m 52 ls []) := by
    intro x1 fn2 H locs ls qa_x1 qb_x1 ia_fn2 hP hD hS hl
    refine lv_iconst (v := 0) hx hb dX12_keep_52 (by decide) ?_
    refine lv_istore_n (lv' := [(1, .int 0), (0, .ref h0)]) hx hb dX12_keep_53 rfl hl (by decide) rfl (fun ls hl => ?_)
    have hL28 : ∀ (n9 : Nat), ∀ (x24 : Int32) (fn25 : Nat → Int32) (H : Heap) (locs : List Loc) (ls : Array Slot), 0 ≤ x24.toInt → x24.toInt ≤ 247 → (pm_ANY fn25) → (fn25 = va_cpy f20 fn2 0 (247 * x1.toInt).toNat x24.toInt.toNat) → (247 - x24.toInt).toNat < n9 → va_P (dC, dI) vwCl (wd_baa7feb8 h0 v0 r0 v1 v2 v3 v4 r1 r2 r3 r4 r5 r6 r7 v5 v6 r8 r9 r10 r11 v7 r12 r13 v8 v9 h1 r14 v10 v11 r15 v12 v13 h2 x1 w15 r16 v16 v17 r17 r18 r19 r20 r21 r22 v18 r23 r24 r25 v19 h1 g0 f20 h2 g1 fn25) H → va_D A (wd_baa7feb8 h0 v0 r0 v1 v2 v3 v4 r1 r2 r3 r4 r5 r6 r7 v5 v6 r8 r9 r10 r11 v7 r12 r13 v8 v9 h1 r14 v10 v11 r15 v12 v13 h2 x1 w15 r16 v16 v17 r17 r18 r19 r20 r21 r22 v18 r23 r24 r25 v19 h1 g0 f20 h2 g1 fn25) → va_S A s.heap H locs → lv_has ls 2 [(1, .int x24), (0, .ref h0)] → W p l e ({ frames := 0, cells := 0, slots := 0, locals := 0 }) s m ([.ref h0] : List Value).toArray below meth c H locs 0 0 Q (F0 m 54 ls []) := by
      intro n9
      induction n9 with
      | zero => intro x24 fn25 H locs ls qa_x24 qb_x24 ia_fn25 gh0_hL28 hm9 hP hD hS hl; exact absurd hm9 (Nat.not_lt_zero _)
      | succ n9 ih_hL28 =>
        intro x24 fn25 H locs ls qa_x24 qb_x24 ia_fn25 gh0_hL28 hm9 hP hD hS hl
        refine lv_iload_n hx hb dX12_keep_54 rfl (lv_at hl 0 rfl) ?_
        refine lv_sipush (v := 247) hx hb dX12_keep_55 (by decide) ?_
        refine lv_icmp_ge (tgt := 88) hx hb dX12_keep_58 (by decide) (fun c29 => ?_) (fun c29 => ?_)
        · skip
          have fc29 : 247 ≤ x24.toInt := Int32.le_iff_toInt_le.mp c29
          refine lv_aload_n hx hb dX12_keep_88 rfl (lv_at hl 1 rfl) ?_
          have ia_fn25 : pm_KP fn25 := by apply pm_KP.put <;> first | assumption | omega
          refine lv_dup hx hb dX12_keep_89 rfl ?_
          refine va_get (D := (dC, dI)) (ci := 12) (v := .int x1) (C := RX12) (T := TX12) (N := 48) hx hb hts (fun _ h => List.mem_cons_of_mem _ (List.mem_append_right _ h)) hown hK hP 0 rfl rfl 32 (by decide) (hts (.fieldLink RX12 275 "LeftArgumentsModel" "acts" "I") (List.mem_cons_of_mem _ (List.mem_append_left _ (List.mem_of_getElem? (i := 0) rfl)))) (fun _ h9 => h9) rfl dX12_keep_90 ?_
          refine lv_iconst (v := 1) hx hb dX12_keep_93 (by decide) ?_
          refine lv_iadd hx hb dX12_keep_94 ?_
          refine lv_topi (fun t30 et30 => ?_)
          have gt30 : t30.toInt = x1.toInt + 1 := pv_add (a := x1.toInt) (b := 1) et30 rfl (by decide) (by omega) (by omega)
          refine va_put (D := (dC, dI)) (ci := 12) (v := .int t30) (ty := .int) (C := RX12) (T := TX12) (N := 48) hx hb hts (fun _ h => List.mem_cons_of_mem _ (List.mem_append_right _ h)) tyX12 tyX12_ok nmX12 hown hK hP hD hS 0 rfl rfl 32 (by decide) (hts (.fieldLink RX12 275 "LeftArgumentsModel" "acts" "I") (List.mem_cons_of_mem _ (List.mem_append_left _ (List.mem_of_getElem? (i := 0) rfl)))) (fun _ h9 => h9) rfl (by decide +kernel) rfl rfl (Nat.le_of_ble_eq_true rfl) dX12_keep_95 (fun H locs hP hD hS => ?_)
          have hP : va_P (dC, dI) vwCl (wd_baa7feb8 h0 v0 r0 v1 v2 v3 v4 r1 r2 r3 r4 r5 r6 r7 v5 v6 r8 r9 r10 r11 v7 r12 r13 v8 v9 h1 r14 v10 v11 r15 v12 v13 h2 t30 w15 r16 v16 v17 r17 r18 r19 r20 r21 r22 v18 r23 r24 r25 v19 h1 g0 f20 h2 g1 fn25) H := hP
          have hD : va_D A (wd_baa7feb8 h0 v0 r0 v1 v2 v3 v4 r1 r2 r3 r4 r5 r6 r7 v5 v6 r8 r9 r10 r11 v7 r12 r13 v8 v9 h1 r14 v10 v11 r15 v12 v13 h2 t30 w15 r16 v16 v17 r17 r18 r19 r20 r21 r22 v18 r23 r24 r25 v19 h1 g0 f20 h2 g1 fn25) := hD
          subst hQ
          have hP9 := hP.sub (ws' := (wd_baa7feb8 h0 v0 r0 v1 v2 v3 v4 r1 r2 r3 r4 r5 r6 r7 v5 v6 r8 r9 r10 r11 v7 r12 r13 v8 v9 h1 r14 v10 v11 r15 v12 v13 h2 t30 w15 r16 v16 v17 r17 r18 r19 r20 r21 r22 v18 r23 r24 r25 v19 h1 g0 f20 h2 g1 fn25)) [0, 1, 2] rfl
          have hD9 := hD.sub (ws' := (wd_baa7feb8 h0 v0 r0 v1 v2 v3 v4 r1 r2 r3 r4 r5 r6 r7 v5 v6 r8 r9 r10 r11 v7 r12 r13 v8 v9 h1 r14 v10 v11 r15 v12 v13 h2 t30 w15 r16 v16 v17 r17 r18 r19 r20 r21 r22 v18 r23 r24 r25 v19 h1 g0 f20 h2 g1 fn25)) [0, 1, 2] (by decide) rfl
          have hK9 := hK.sub (tys' := []) [] rfl
          exact W.vret hx hb hr (fun t ht hW => ⟨⟨(), rfl, trivial, ⟨t30, fn25, by first | omega | decide, by first | omega | decide, ia_fn25, by rw [ht]; exact hP9, va_K.moved hW.alike hK9, hD9⟩⟩, hS.F ht⟩) hS.2.2 dX12_keep_98
        · skip
          have fc29 : ¬ (247 ≤ x24.toInt) := fun h9 => c29 (Int32.le_iff_toInt_le.mpr h9)
          refine lv_aload_n hx hb dX12_keep_61 rfl (lv_at hl 1 rfl) ?_
          refine va_get (D := (dC, dI)) (ci := 12) (v := .ref h2) (C := RX12) (T := TX12) (N := 48) hx hb hts (fun _ h => List.mem_cons_of_mem _ (List.mem_append_right _ h)) hown hK hP 0 rfl rfl 31 (by decide) (hts (.fieldLink RX12 68 "LeftArgumentsModel" "kept" "[I") (List.mem_cons_of_mem _ (List.mem_append_left _ (List.mem_of_getElem? (i := 1) rfl)))) (fun _ h9 => h9) rfl dX12_keep_62 ?_
          refine lv_sipush (v := 247) hx hb dX12_keep_65 (by decide) ?_
          refine lv_aload_n hx hb dX12_keep_68 rfl (lv_at hl 1 rfl) ?_
          refine va_get (D := (dC, dI)) (ci := 12) (v := .int x1) (C := RX12) (T := TX12) (N := 48) hx hb hts (fun _ h => List.mem_cons_of_mem _ (List.mem_append_right _ h)) hown hK hP 0 rfl rfl 32 (by decide) (hts (.fieldLink RX12 275 "LeftArgumentsModel" "acts" "I") (List.mem_cons_of_mem _ (List.mem_append_left _ (List.mem_of_getElem? (i := 0) rfl)))) (fun _ h9 => h9) rfl dX12_keep_69 ?_
          refine lv_imul hx hb dX12_keep_72 ?_
          refine lv_topi (fun t31 et31 => ?_)
          have gt31 : t31.toInt = 247 * x1.toInt := pv_mul (a := 247) (b := x1.toInt) et31 (by decide) rfl (by omega) (by omega)
          refine lv_iload_n hx hb dX12_keep_73 rfl (lv_at hl 0 rfl) ?_
          refine lv_iadd hx hb dX12_keep_74 ?_
          refine lv_topi (fun t32 et32 => ?_)
          have gt32 : t32.toInt = t31.toInt + x24.toInt := pv_add (a := t31.toInt) (b := x24.toInt) et32 rfl rfl (by omega) (by omega)
          refine lv_aload_n hx hb dX12_keep_75 rfl (lv_at hl 1 rfl) ?_
          refine va_get (D := (dC, dI)) (ci := 12) (v := .ref h1) (C := RX12) (T := TX12) (N := 48) hx hb hts (fun _ h => List.mem_cons_of_mem _ (List.mem_append_right _ h)) hown hK hP 0 rfl rfl 24 (by decide) (hts (.fieldLink RX12 52 "LeftArgumentsModel" "now" "[I") (List.mem_cons_of_mem _ (List.mem_append_left _ (List.mem_of_getElem? (i := 2) rfl)))) (fun _ h9 => h9) rfl dX12_keep_76 ?_
          refine lv_iload_n hx hb dX12_keep_79 rfl (lv_at hl 0 rfl) ?_
          refine va_iald hx hb hK hP 1 0 rfl rfl (vp_in_iff.mpr ⟨by omega, by omega⟩) dX12_keep_80 ?_
          refine lv_topi (fun t33 et33 => ?_)
          refine va_iast hx hb hK hP hD hS 2 1 rfl rfl (vp_in_iff.mpr ⟨by omega, by omega⟩) dX12_keep_81 (fun H locs hP hD hS => ?_)
          obtain ⟨fn34, efn34⟩ : ∃ g : Nat → Int32, g = upd fn25 (Int32.toNatClampNeg t32) t33 := ⟨_, rfl⟩
          rw [← efn34] at hP hD
          have ia_fn34 : pm_ANY fn34 := trivial
          have hP : va_P (dC, dI) vwCl (wd_baa7feb8 h0 v0 r0 v1 v2 v3 v4 r1 r2 r3 r4 r5 r6 r7 v5 v6 r8 r9 r10 r11 v7 r12 r13 v8 v9 h1 r14 v10 v11 r15 v12 v13 h2 x1 w15 r16 v16 v17 r17 r18 r19 r20 r21 r22 v18 r23 r24 r25 v19 h1 g0 f20 h2 g1 fn34) H := hP
          have hD : va_D A (wd_baa7feb8 h0 v0 r0 v1 v2 v3 v4 r1 r2 r3 r4 r5 r6 r7 v5 v6 r8 r9 r10 r11 v7 r12 r13 v8 v9 h1 r14 v10 v11 r15 v12 v13 h2 x1 w15 r16 v16 v17 r17 r18 r19 r20 r21 r22 v18 r23 r24 r25 v19 h1 g0 f20 h2 g1 fn34) := hD
          obtain ⟨t35, et35⟩ : ∃ y : Int32, y = x24 + 1 := ⟨_, rfl⟩
          have gt35 : t35.toInt = x24.toInt + (1) := pv_add (a := x24.toInt) (b := (1)) et35 rfl (by decide) (by omega) (by omega)
          refine lv_iinc (v := t35) (lv' := [(1, .int t35), (0, .ref h0)]) hx hb dX12_keep_82 hl (k := 0) rfl (by rw [et35]; rfl) (by decide) rfl (fun ls hl => ?_)
          refine lv_goto (tgt := 54) hx hb dX12_keep_85 (by decide) ?_
          exact ih_hL28 t35 fn34 H locs ls (by first | omega | decide) (by first | omega | decide) ia_fn34 (by first | exact pm_cp.zero (by decide) | (apply pm_cp.step <;> first | assumption | omega)) (by first | omega | (simp only [Int.toNat] at *; omega)) hP hD hS (lv_sub hl [0, 1] rfl)
    exact hL28 _ 0 fn2 H locs ls (by decide) (by decide) trivial (by first | exact pm_cp.zero (by decide) | (apply pm_cp.step <;> first | assumption | omega)) (Nat.lt_succ_self _) hP hD hS (lv_sub hl [0, 1] rfl)
  refine lv_icmp_ne (tgt := 52) hx hb dX12_keep_6 (by decide) (fun c36 => ?_) (fun c36 => ?_)
  · skip
    have fc36 : ¬ (v14.toInt = 40) := fun h9 => c36 (Int32.toInt_inj.mp h9)
    exact hJ3 v14 f21 H locs ls i_v14a (by first | omega | decide) ia_f21 hP hD hS (lv_sub hl [0] rfl)
  · skip
    have fc36 : v14.toInt = 40 := congrArg Int32.toInt c36
    refine lv_sipush (v := 247) hx hb dX12_keep_9 (by decide) ?_
    refine lv_istore_n (lv' := [(1, .int 247), (0, .ref h0)]) hx hb dX12_keep_12 rfl hl (by decide) rfl (fun ls hl => ?_)
    have hL49 : ∀ (n9 : Nat), ∀ (x45 : Int32) (fn46 : Nat → Int32) (H : Heap) (locs : List Loc) (ls : Array Slot), 247 ≤ x45.toInt → x45.toInt ≤ 9880 → (pm_ANY fn46) → (fn46 = pm_sh f21 247 (x45.toInt - 247).toNat) → (9880 - x45.toInt).toNat < n9 → va_P (dC, dI) vwCl (wd_baa7feb8 h0 v0 r0 v1 v2 v3 v4 r1 r2 r3 r4 r5 r6 r7 v5 v6 r8 r9 r10 r11 v7 r12 r13 v8 v9 h1 r14 v10 v11 r15 v12 v13 h2 v14 w15 r16 v16 v17 r17 r18 r19 r20 r21 r22 v18 r23 r24 r25 v19 h1 g0 f20 h2 g1 fn46) H → va_D A (wd_baa7feb8 h0 v0 r0 v1 v2 v3 v4 r1 r2 r3 r4 r5 r6 r7 v5 v6 r8 r9 r10 r11 v7 r12 r13 v8 v9 h1 r14 v10 v11 r15 v12 v13 h2 v14 w15 r16 v16 v17 r17 r18 r19 r20 r21 r22 v18 r23 r24 r25 v19 h1 g0 f20 h2 g1 fn46) → va_S A s.heap H locs → lv_has ls 2 [(1, .int x45), (0, .ref h0)] → W p l e ({ frames := 0, cells := 0, slots := 0, locals := 0 }) s m ([.ref h0] : List Value).toArray below meth c H locs 0 0 Q (F0 m 13 ls []) := by
      intro n9
      induction n9 with
      | zero => intro x45 fn46 H locs ls qa_x45 qb_x45 ia_fn46 gh0_hL49 hm9 hP hD hS hl; exact absurd hm9 (Nat.not_lt_zero _)
      | succ n9 ih_hL49 =>
        intro x45 fn46 H locs ls qa_x45 qb_x45 ia_fn46 gh0_hL49 hm9 hP hD hS hl
        refine lv_iload_n hx hb dX12_keep_13 rfl (lv_at hl 0 rfl) ?_
        refine lv_sipush (v := 9880) hx hb dX12_keep_14 (by decide) ?_
        refine lv_icmp_ge (tgt := 42) hx hb dX12_keep_17 (by decide) (fun c50 => ?_) (fun c50 => ?_)
        · skip
          have fc50 : 9880 ≤ x45.toInt := Int32.le_iff_toInt_le.mp c50
          refine lv_aload_n hx hb dX12_keep_42 rfl (lv_at hl 1 rfl) ?_
          have ia_fn46 : pm_KP fn46 := by apply pm_KP.shift <;> first | assumption | omega
          refine lv_dup hx hb dX12_keep_43 rfl ?_
          refine va_get (D := (dC, dI)) (ci := 12) (v := .int v14) (C := RX12) (T := TX12) (N := 48) hx hb hts (fun _ h => List.mem_cons_of_mem _ (List.mem_append_right _ h)) hown hK hP 0 rfl rfl 32 (by decide) (hts (.fieldLink RX12 275 "LeftArgumentsModel" "acts" "I") (List.mem_cons_of_mem _ (List.mem_append_left _ (List.mem_of_getElem? (i := 0) rfl)))) (fun _ h9 => h9) rfl dX12_keep_44 ?_
          refine lv_iconst (v := 1) hx hb dX12_keep_47 (by decide) ?_
          refine lv_isub hx hb dX12_keep_48 ?_
          refine lv_topi (fun t51 et51 => ?_)
          have gt51 : t51.toInt = v14.toInt - 1 := pv_sub (a := v14.toInt) (b := 1) et51 rfl (by decide) (by omega) (by omega)
          refine va_put (D := (dC, dI)) (ci := 12) (v := .int t51) (ty := .int) (C := RX12) (T := TX12) (N := 48) hx hb hts (fun _ h => List.mem_cons_of_mem _ (List.mem_append_right _ h)) tyX12 tyX12_ok nmX12 hown hK hP hD hS 0 rfl rfl 32 (by decide) (hts (.fieldLink RX12 275 "LeftArgumentsModel" "acts" "I") (List.mem_cons_of_mem _ (List.mem_append_left _ (List.mem_of_getElem? (i := 0) rfl)))) (fun _ h9 => h9) rfl (by decide +kernel) rfl rfl (Nat.le_of_ble_eq_true rfl) dX12_keep_49 (fun H locs hP hD hS => ?_)
          have hP : va_P (dC, dI) vwCl (wd_baa7feb8 h0 v0 r0 v1 v2 v3 v4 r1 r2 r3 r4 r5 r6 r7 v5 v6 r8 r9 r10 r11 v7 r12 r13 v8 v9 h1 r14 v10 v11 r15 v12 v13 h2 t51 w15 r16 v16 v17 r17 r18 r19 r20 r21 r22 v18 r23 r24 r25 v19 h1 g0 f20 h2 g1 fn46) H := hP
          have hD : va_D A (wd_baa7feb8 h0 v0 r0 v1 v2 v3 v4 r1 r2 r3 r4 r5 r6 r7 v5 v6 r8 r9 r10 r11 v7 r12 r13 v8 v9 h1 r14 v10 v11 r15 v12 v13 h2 t51 w15 r16 v16 v17 r17 r18 r19 r20 r21 r22 v18 r23 r24 r25 v19 h1 g0 f20 h2 g1 fn46) := hD
          exact hJ3 t51 fn46 H locs ls (by first | omega | decide) (by first | omega | decide) ia_fn46 hP hD hS (lv_sub hl [1] rfl)
        · skip
          have fc50 : ¬ (9880 ≤ x45.toInt) := fun h9 => c50 (Int32.le_iff_toInt_le.mpr h9)
          refine lv_aload_n hx hb dX12_keep_20 rfl (lv_at hl 1 rfl) ?_
          refine va_get (D := (dC, dI)) (ci := 12) (v := .ref h2) (C := RX12) (T := TX12) (N := 48) hx hb hts (fun _ h => List.mem_cons_of_mem _ (List.mem_append_right _ h)) hown hK hP 0 rfl rfl 31 (by decide) (hts (.fieldLink RX12 68 "LeftArgumentsModel" "kept" "[I") (List.mem_cons_of_mem _ (List.mem_append_left _ (List.mem_of_getElem? (i := 1) rfl)))) (fun _ h9 => h9) rfl dX12_keep_21 ?_
          refine lv_iload_n hx hb dX12_keep_24 rfl (lv_at hl 0 rfl) ?_
          refine lv_sipush (v := 247) hx hb dX12_keep_25 (by decide) ?_
          refine lv_isub hx hb dX12_keep_28 ?_
          refine lv_topi (fun t52 et52 => ?_)
          have gt52 : t52.toInt = x45.toInt - 247 := pv_sub (a := x45.toInt) (b := 247) et52 rfl (by decide) (by omega) (by omega)
          refine lv_aload_n hx hb dX12_keep_29 rfl (lv_at hl 1 rfl) ?_
          refine va_get (D := (dC, dI)) (ci := 12) (v := .ref h2) (C := RX12) (T := TX12) (N := 48) hx hb hts (fun _ h => List.mem_cons_of_mem _ (List.mem_append_right _ h)) hown hK hP 0 rfl rfl 31 (by decide) (hts (.fieldLink RX12 68 "LeftArgumentsModel" "kept" "[I") (List.mem_cons_of_mem _ (List.mem_append_left _ (List.mem_of_getElem? (i := 1) rfl)))) (fun _ h9 => h9) rfl dX12_keep_30 ?_
          refine lv_iload_n hx hb dX12_keep_33 rfl (lv_at hl 0 rfl) ?_
          refine va_iald hx hb hK hP 2 1 rfl rfl (vp_in_iff.mpr ⟨by omega, by omega⟩) dX12_keep_34 ?_
          refine lv_topi (fun t53 et53 => ?_)
          refine va_iast hx hb hK hP hD hS 2 1 rfl rfl (vp_in_iff.mpr ⟨by omega, by omega⟩) dX12_keep_35 (fun H locs hP hD hS => ?_)
          obtain ⟨fn54, efn54⟩ : ∃ g : Nat → Int32, g = upd fn46 (Int32.toNatClampNeg t52) t53 := ⟨_, rfl⟩
          rw [← efn54] at hP hD
          have ia_fn54 : pm_ANY fn54 := trivial
          have hP : va_P (dC, dI) vwCl (wd_baa7feb8 h0 v0 r0 v1 v2 v3 v4 r1 r2 r3 r4 r5 r6 r7 v5 v6 r8 r9 r10 r11 v7 r12 r13 v8 v9 h1 r14 v10 v11 r15 v12 v13 h2 v14 w15 r16 v16 v17 r17 r18 r19 r20 r21 r22 v18 r23 r24 r25 v19 h1 g0 f20 h2 g1 fn54) H := hP
          have hD : va_D A (wd_baa7feb8 h0 v0 r0 v1 v2 v3 v4 r1 r2 r3 r4 r5 r6 r7 v5 v6 r8 r9 r10 r11 v7 r12 r13 v8 v9 h1 r14 v10 v11 r15 v12 v13 h2 v14 w15 r16 v16 v17 r17 r18 r19 r20 r21 r22 v18 r23 r24 r25 v19 h1 g0 f20 h2 g1 fn54) := hD
          obtain ⟨t55, et55⟩ : ∃ y : Int32, y = x45 + 1 := ⟨_, rfl⟩
          have gt55 : t55.toInt = x45.toInt + (1) := pv_add (a := x45.toInt) (b := (1)) et55 rfl (by decide) (by omega) (by omega)
          refine lv_iinc (v := t55) (lv' := [(1, .int t55), (0, .ref h0)]) hx hb dX12_keep_36 hl (k := 0) rfl (by rw [et55]; rfl) (by decide) rfl (fun ls hl => ?_)
          refine lv_goto (tgt := 13) hx hb dX12_keep_39 (by decide) ?_
          exact ih_hL49 t55 fn54 H locs ls (by first | omega | decide) (by first | omega | decide) ia_fn54 (by first | exact pm_sh.zero (by decide) | (apply pm_sh.step <;> first | assumption | omega)) (by first | omega | (simp only [Int.toNat] at *; omega)) hP hD hS (lv_sub hl [0, 1] rfl)
    exact hL49 _ 247 f21 H locs ls (by decide) (by decide) trivial (by first | exact pm_sh.zero (by decide) | (apply pm_sh.step <;> first | assumption | omega)) (Nat.lt_succ_self _) hP hD hS (lv_sub hl [0, 1] rfl)
def q_X12_undo : List Cond := .code yX12_undo cX12_undo 2 (some .int) :: (([.fieldLink RX12 275 "LeftArgumentsModel" "acts" "I", .fieldLink RX12 52 "LeftArgumentsModel" "now" "[I", .fieldLink RX12 68 "LeftArgumentsModel" "kept" "[I"] : List Cond) ++ wsX120)
set_option maxHeartbeats 4000000 in
set_option maxRecDepth 100000 in
theorem k_X12_undo (l : Launch) (dC : Nat → ClassId) (dI : Nat → Nat → Nat) (h0 : Nat) (h1 : Nat) (h2 : Nat) (v0 : Int32) (r0 : Nat) (v1 : Int32) (v2 : Int32) (v3 : Int32) (v4 : Int32) (r1 : Nat) (r2 : Nat) (r3 : Nat) (r4 : Nat) (r5 : Nat) (r6 : Nat) (r7 : Nat) (v5 : Int32) (v6 : Int32) (r8 : Nat) (r9 : Nat) (r10 : Nat) (r11 : Nat) (v7 : Int32) (r12 : Nat) (r13 : Nat) (v8 : Int32) (v9 : Int32) (r14 : Nat) (v10 : Int32) (v11 : Int32) (r15 : Nat) (v12 : Int32) (v13 : Int32) (v14 : Int32) (w15 : Int64) (r16 : Nat) (v16 : Int32) (v17 : Int32) (r17 : Nat) (r18 : Nat) (r19 : Nat) (r20 : Nat) (r21 : Nat) (r22 : Nat) (v18 : Int32) (r23 : Nat) (r24 : Nat) (r25 : Nat) (v19 : Int32) (g0 : ClassId) (f20 : Nat → Int32) (g1 : ClassId) (f21 : Nat → Int32) (i_v1 : 0 ≤ v1.toInt ∧ v1.toInt ≤ 240) (i_v5 : 0 ≤ v5.toInt ∧ v5.toInt ≤ 4) (i_v6 : 0 ≤ v6.toInt ∧ v6.toInt ≤ 4) (i_v7 : 0 ≤ v7.toInt ∧ v7.toInt ≤ 8) (i_v8 : 0 ≤ v8.toInt ∧ v8.toInt ≤ 8) (i_v9 : 0 ≤ v9.toInt ∧ v9.toInt ≤ 1) (i_v10 : -1 ≤ v10.toInt ∧ v10.toInt ≤ 3) (i_v14 : 0 ≤ v14.toInt ∧ v14.toInt ≤ 40) (i_v18 : 0 ≤ v18.toInt ∧ v18.toInt ≤ 10) (i_v19 : 0 ≤ v19.toInt ∧ v19.toInt ≤ 1) (ia_f20 : (pm_NW f20)) (ia_f21 : (pm_KP f21)) (sz : Nat) : Met l yX12_undo q_X12_undo ({ frames := 0, cells := 0, slots := 0, locals := 0 }) (va_Pc [.ref h0] (fun U => U.heap.size = sz ∧ va_P (dC, dI) vwCl (wd_baa7feb8 h0 v0 r0 v1 v2 v3 v4 r1 r2 r3 r4 r5 r6 r7 v5 v6 r8 r9 r10 r11 v7 r12 r13 v8 v9 h1 r14 v10 v11 r15 v12 v13 h2 v14 w15 r16 v16 v17 r17 r18 r19 r20 r21 r22 v18 r23 r24 r25 v19 h1 g0 f20 h2 g1 f21) U.heap ∧ va_K (dC, dI) vwCl [(g0, .int), (g1, .int)] U ∧ va_D (fun _ => True) (wd_baa7feb8 h0 v0 r0 v1 v2 v3 v4 r1 r2 r3 r4 r5 r6 r7 v5 v6 r8 r9 r10 r11 v7 r12 r13 v8 v9 h1 r14 v10 v11 r15 v12 v13 h2 v14 w15 r16 v16 v17 r17 r18 r19 r20 r21 r22 v18 r23 r24 r25 v19 h1 g0 f20 h2 g1 f21))) (va_Qi (fun (r : Int32) (r9 : Int32) => r9 = r) (fun (r : Int32) (t : State) => (∃ (o_h0_32 : Int32) (o_h1 : Nat → Int32), 0 ≤ o_h0_32.toInt ∧ o_h0_32.toInt ≤ 39 ∧ (pm_NW o_h1) ∧ (-1 ≤ r.toInt) ∧ (r.toInt ≤ 39) ∧ va_P (dC, dI) vwCl (wd_baa7feb8 h0 v0 r0 v1 v2 v3 v4 r1 r2 r3 r4 r5 r6 r7 v5 v6 r8 r9 r10 r11 v7 r12 r13 v8 v9 h1 r14 v10 v11 r15 v12 v13 h2 o_h0_32 w15 r16 v16 v17 r17 r18 r19 r20 r21 r22 v18 r23 r24 r25 v19 h1 g0 o_h1 h2 g1 f21) t.heap ∧ va_K (dC, dI) vwCl [] t ∧ va_D (va_A (wd_baa7feb8 h0 v0 r0 v1 v2 v3 v4 r1 r2 r3 r4 r5 r6 r7 v5 v6 r8 r9 r10 r11 v7 r12 r13 v8 v9 h1 r14 v10 v11 r15 v12 v13 h2 v14 w15 r16 v16 v17 r17 r18 r19 r20 r21 r22 v18 r23 r24 r25 v19 h1 g0 f20 h2 g1 f21) sz) (wd_baa7feb8 h0 v0 r0 v1 v2 v3 v4 r1 r2 r3 r4 r5 r6 r7 v5 v6 r8 r9 r10 r11 v7 r12 r13 v8 v9 h1 r14 v10 v11 r15 v12 v13 h2 o_h0_32 w15 r16 v16 v17 r17 r18 r19 r20 r21 r22 v18 r23 r24 r25 v19 h1 g0 o_h1 h2 g1 f21))) (va_A (wd_baa7feb8 h0 v0 r0 v1 v2 v3 v4 r1 r2 r3 r4 r5 r6 r7 v5 v6 r8 r9 r10 r11 v7 r12 r13 v8 v9 h1 r14 v10 v11 r15 v12 v13 h2 v14 w15 r16 v16 v17 r17 r18 r19 r20 r21 r22 v18 r23 r24 r25 v19 h1 g0 f20 h2 g1 f21) sz)) 0 0 (va_A (wd_baa7feb8 h0 v0 r0 v1 v2 v3 v4 r1 r2 r3 r4 r5 r6 r7 v5 v6 r8 r9 r10 r11 v7 r12 r13 v8 v9 h1 r14 v10 v11 r15 v12 v13 h2 v14 w15 r16 v16 v17 r17 r18 r19 r20 r21 r22 v18 r23 r24 r25 v19 h1 g0 f20 h2 g1 f21) sz) := by
  refine Met.ofW (cc := cX12_undo) (maxL := 2) (ret := (some .int)) (by decide) rfl ?_
  intro p e s m args below meth c s₁ B hml hv
  obtain ⟨i_v1a, i_v1b⟩ := i_v1
  obtain ⟨i_v5a, i_v5b⟩ := i_v5
  obtain ⟨i_v6a, i_v6b⟩ := i_v6
  obtain ⟨i_v7a, i_v7b⟩ := i_v7
  obtain ⟨i_v8a, i_v8b⟩ := i_v8
  obtain ⟨i_v9a, i_v9b⟩ := i_v9
  obtain ⟨i_v10a, i_v10b⟩ := i_v10
  obtain ⟨i_v14a, i_v14b⟩ := i_v14
  obtain ⟨i_v18a, i_v18b⟩ := i_v18
  obtain ⟨i_v19a, i_v19b⟩ := i_v19
  obtain ⟨rfl, hsz, hP, hK, hD0⟩ := hv
  have hx := B.exec
  have hb := B.bytes
  have hr := B.returns
  have hts := atoms_spec (ws := q_X12_undo) B.pre
  have hown : s.vm.findClass RX12 = some m.cls := findClass_of_methodNamed B.named
  have hlocks := B.notSynchronized
  subst hsz
  have hD := hD0.self (sz := s.heap.size)
  generalize hAe : va_A (wd_baa7feb8 h0 v0 r0 v1 v2 v3 v4 r1 r2 r3 r4 r5 r6 r7 v5 v6 r8 r9 r10 r11 v7 r12 r13 v8 v9 h1 r14 v10 v11 r15 v12 v13 h2 v14 w15 r16 v16 v17 r17 r18 r19 r20 r21 r22 v18 r23 r24 r25 v19 h1 g0 f20 h2 g1 f21) s.heap.size = A at hD ⊢
  have hA : ∀ q : Nat, s.heap.size ≤ q → A q := fun q h => by rw [← hAe]; exact Or.inr h
  have hS : va_S A s.heap s.heap [] := va_S.rf
  generalize hQ : (MQ below _ _ s 0 0 A) = Q
  have hl := lv_entry ([.ref h0]) (n := 2) (Nat.le_of_ble_eq_true rfl)
  rw [lg_entry_eq]
  generalize (lg_sl ([.ref h0]) ++ List.replicate (2 - (lg_sl ([.ref h0])).length) Slot.unset).toArray = ls at hl ⊢
  have hl : lv_has ls 2 [(0, .ref h0)] := hl
  obtain ⟨H, hH⟩ : ∃ H : Heap, H = s.heap := ⟨_, rfl⟩
  obtain ⟨locs, hlocs⟩ : ∃ y : List Loc, y = [] := ⟨_, rfl⟩
  have hS : va_S A s.heap H locs := by rw [hH, hlocs]; exact va_S.rf
  have hP : va_P (dC, dI) vwCl (wd_baa7feb8 h0 v0 r0 v1 v2 v3 v4 r1 r2 r3 r4 r5 r6 r7 v5 v6 r8 r9 r10 r11 v7 r12 r13 v8 v9 h1 r14 v10 v11 r15 v12 v13 h2 v14 w15 r16 v16 v17 r17 r18 r19 r20 r21 r22 v18 r23 r24 r25 v19 h1 g0 f20 h2 g1 f21) H := by rw [hH]; exact hP
  rw [← hH, ← hlocs]
  refine lv_aload_n hx hb dX12_undo_0 rfl (lv_at hl 0 rfl) ?_
  refine va_get (D := (dC, dI)) (ci := 12) (v := .int v14) (C := RX12) (T := TX12) (N := 48) hx hb hts (fun _ h => List.mem_cons_of_mem _ (List.mem_append_right _ h)) hown hK hP 0 rfl rfl 32 (by decide) (hts (.fieldLink RX12 275 "LeftArgumentsModel" "acts" "I") (List.mem_cons_of_mem _ (List.mem_append_left _ (List.mem_of_getElem? (i := 0) rfl)))) (fun _ h9 => h9) rfl dX12_undo_1 ?_
  refine lv_if_ne (tgt := 9) hx hb dX12_undo_4 (by decide) (fun c1 => ?_) (fun c1 => ?_)
  · skip
    have fc1 : ¬ (v14.toInt = 0) := fun h9 => c1 (Int32.toInt_inj.mp h9)
    refine lv_aload_n hx hb dX12_undo_9 rfl (lv_at hl 0 rfl) ?_
    refine lv_dup hx hb dX12_undo_10 rfl ?_
    refine va_get (D := (dC, dI)) (ci := 12) (v := .int v14) (C := RX12) (T := TX12) (N := 48) hx hb hts (fun _ h => List.mem_cons_of_mem _ (List.mem_append_right _ h)) hown hK hP 0 rfl rfl 32 (by decide) (hts (.fieldLink RX12 275 "LeftArgumentsModel" "acts" "I") (List.mem_cons_of_mem _ (List.mem_append_left _ (List.mem_of_getElem? (i := 0) rfl)))) (fun _ h9 => h9) rfl dX12_undo_11 ?_
    refine lv_iconst (v := 1) hx hb dX12_undo_14 (by decide) ?_
    refine lv_isub hx hb dX12_undo_15 ?_
    refine lv_topi (fun t2 et2 => ?_)
    have gt2 : t2.toInt = v14.toInt - 1 := pv_sub (a := v14.toInt) (b := 1) et2 rfl (by decide) (by omega) (by omega)
    refine va_put (D := (dC, dI)) (ci := 12) (v := .int t2) (ty := .int) (C := RX12) (T := TX12) (N := 48) hx hb hts (fun _ h => List.mem_cons_of_mem _ (List.mem_append_right _ h)) tyX12 tyX12_ok nmX12 hown hK hP hD hS 0 rfl rfl 32 (by decide) (hts (.fieldLink RX12 275 "LeftArgumentsModel" "acts" "I") (List.mem_cons_of_mem _ (List.mem_append_left _ (List.mem_of_getElem? (i := 0) rfl)))) (fun _ h9 => h9) rfl (by decide +kernel) rfl rfl (Nat.le_of_ble_eq_true rfl) dX12_undo_16 (fun H locs hP hD hS => ?_)
    have hP : va_P (dC, dI) vwCl (wd_baa7feb8 h0 v0 r0 v1 v2 v3 v4 r1 r2 r3 r4 r5 r6 r7 v5 v6 r8 r9 r10 r11 v7 r12 r13 v8 v9 h1 r14 v10 v11 r15 v12 v13 h2 t2 w15 r16 v16 v17 r17 r18 r19 r20 r21 r22 v18 r23 r24 r25 v19 h1 g0 f20 h2 g1 f21) H := hP
    have hD : va_D A (wd_baa7feb8 h0 v0 r0 v1 v2 v3 v4 r1 r2 r3 r4 r5 r6 r7 v5 v6 r8 r9 r10 r11 v7 r12 r13 v8 v9 h1 r14 v10 v11 r15 v12 v13 h2 t2 w15 r16 v16 v17 r17 r18 r19 r20 r21 r22 v18 r23 r24 r25 v19 h1 g0 f20 h2 g1 f21) := hD
    refine lv_iconst (v := 0) hx hb dX12_undo_19 (by decide) ?_
    refine lv_istore_n (lv' := [(1, .int 0), (0, .ref h0)]) hx hb dX12_undo_20 rfl hl (by decide) rfl (fun ls hl => ?_)
    have hL23 : ∀ (n9 : Nat), ∀ (x19 : Int32) (fn20 : Nat → Int32) (H : Heap) (locs : List Loc) (ls : Array Slot), 0 ≤ x19.toInt → x19.toInt ≤ 247 → (pm_ANY fn20) → (fn20 = va_cpy f21 f20 (247 * t2.toInt).toNat 0 x19.toInt.toNat) → (247 - x19.toInt).toNat < n9 → va_P (dC, dI) vwCl (wd_baa7feb8 h0 v0 r0 v1 v2 v3 v4 r1 r2 r3 r4 r5 r6 r7 v5 v6 r8 r9 r10 r11 v7 r12 r13 v8 v9 h1 r14 v10 v11 r15 v12 v13 h2 t2 w15 r16 v16 v17 r17 r18 r19 r20 r21 r22 v18 r23 r24 r25 v19 h1 g0 fn20 h2 g1 f21) H → va_D A (wd_baa7feb8 h0 v0 r0 v1 v2 v3 v4 r1 r2 r3 r4 r5 r6 r7 v5 v6 r8 r9 r10 r11 v7 r12 r13 v8 v9 h1 r14 v10 v11 r15 v12 v13 h2 t2 w15 r16 v16 v17 r17 r18 r19 r20 r21 r22 v18 r23 r24 r25 v19 h1 g0 fn20 h2 g1 f21) → va_S A s.heap H locs → lv_has ls 2 [(1, .int x19), (0, .ref h0)] → W p l e ({ frames := 0, cells := 0, slots := 0, locals := 0 }) s m ([.ref h0] : List Value).toArray below meth c H locs 0 0 Q (F0 m 21 ls []) := by
      intro n9
      induction n9 with
      | zero => intro x19 fn20 H locs ls qa_x19 qb_x19 ia_fn20 gh0_hL23 hm9 hP hD hS hl; exact absurd hm9 (Nat.not_lt_zero _)
      | succ n9 ih_hL23 =>
        intro x19 fn20 H locs ls qa_x19 qb_x19 ia_fn20 gh0_hL23 hm9 hP hD hS hl
        refine lv_iload_n hx hb dX12_undo_21 rfl (lv_at hl 0 rfl) ?_
        refine lv_sipush (v := 247) hx hb dX12_undo_22 (by decide) ?_
        refine lv_icmp_ge (tgt := 55) hx hb dX12_undo_25 (by decide) (fun c24 => ?_) (fun c24 => ?_)
        · skip
          have fc24 : 247 ≤ x19.toInt := Int32.le_iff_toInt_le.mp c24
          refine lv_aload_n hx hb dX12_undo_55 rfl (lv_at hl 1 rfl) ?_
          have ia_fn20 : pm_NW fn20 := by apply pm_KP.get <;> first | assumption | omega
          refine va_get (D := (dC, dI)) (ci := 12) (v := .int t2) (C := RX12) (T := TX12) (N := 48) hx hb hts (fun _ h => List.mem_cons_of_mem _ (List.mem_append_right _ h)) hown hK hP 0 rfl rfl 32 (by decide) (hts (.fieldLink RX12 275 "LeftArgumentsModel" "acts" "I") (List.mem_cons_of_mem _ (List.mem_append_left _ (List.mem_of_getElem? (i := 0) rfl)))) (fun _ h9 => h9) rfl dX12_undo_56 ?_
          subst hQ
          have hP9 := hP.sub (ws' := (wd_baa7feb8 h0 v0 r0 v1 v2 v3 v4 r1 r2 r3 r4 r5 r6 r7 v5 v6 r8 r9 r10 r11 v7 r12 r13 v8 v9 h1 r14 v10 v11 r15 v12 v13 h2 t2 w15 r16 v16 v17 r17 r18 r19 r20 r21 r22 v18 r23 r24 r25 v19 h1 g0 fn20 h2 g1 f21)) [0, 1, 2] rfl
          have hD9 := hD.sub (ws' := (wd_baa7feb8 h0 v0 r0 v1 v2 v3 v4 r1 r2 r3 r4 r5 r6 r7 v5 v6 r8 r9 r10 r11 v7 r12 r13 v8 v9 h1 r14 v10 v11 r15 v12 v13 h2 t2 w15 r16 v16 v17 r17 r18 r19 r20 r21 r22 v18 r23 r24 r25 v19 h1 g0 fn20 h2 g1 f21)) [0, 1, 2] (by decide) rfl
          have hK9 := hK.sub (tys' := []) [] rfl
          exact W.iret (v := t2) hx hb hr (fun t ht hW => ⟨⟨t2, t2, rfl, rfl, ⟨t2, fn20, by first | omega | decide, by first | omega | decide, ia_fn20, by first | omega | decide, by first | omega | decide, by rw [ht]; exact hP9, va_K.moved hW.alike hK9, hD9⟩⟩, hS.F ht⟩) hS.2.2 dX12_undo_59
        · skip
          have fc24 : ¬ (247 ≤ x19.toInt) := fun h9 => c24 (Int32.le_iff_toInt_le.mpr h9)
          refine lv_aload_n hx hb dX12_undo_28 rfl (lv_at hl 1 rfl) ?_
          refine va_get (D := (dC, dI)) (ci := 12) (v := .ref h1) (C := RX12) (T := TX12) (N := 48) hx hb hts (fun _ h => List.mem_cons_of_mem _ (List.mem_append_right _ h)) hown hK hP 0 rfl rfl 24 (by decide) (hts (.fieldLink RX12 52 "LeftArgumentsModel" "now" "[I") (List.mem_cons_of_mem _ (List.mem_append_left _ (List.mem_of_getElem? (i := 1) rfl)))) (fun _ h9 => h9) rfl dX12_undo_29 ?_
          refine lv_iload_n hx hb dX12_undo_32 rfl (lv_at hl 0 rfl) ?_
          refine lv_aload_n hx hb dX12_undo_33 rfl (lv_at hl 1 rfl) ?_
          refine va_get (D := (dC, dI)) (ci := 12) (v := .ref h2) (C := RX12) (T := TX12) (N := 48) hx hb hts (fun _ h => List.mem_cons_of_mem _ (List.mem_append_right _ h)) hown hK hP 0 rfl rfl 31 (by decide) (hts (.fieldLink RX12 68 "LeftArgumentsModel" "kept" "[I") (List.mem_cons_of_mem _ (List.mem_append_left _ (List.mem_of_getElem? (i := 2) rfl)))) (fun _ h9 => h9) rfl dX12_undo_34 ?_
          refine lv_sipush (v := 247) hx hb dX12_undo_37 (by decide) ?_
          refine lv_aload_n hx hb dX12_undo_40 rfl (lv_at hl 1 rfl) ?_
          refine va_get (D := (dC, dI)) (ci := 12) (v := .int t2) (C := RX12) (T := TX12) (N := 48) hx hb hts (fun _ h => List.mem_cons_of_mem _ (List.mem_append_right _ h)) hown hK hP 0 rfl rfl 32 (by decide) (hts (.fieldLink RX12 275 "LeftArgumentsModel" "acts" "I") (List.mem_cons_of_mem _ (List.mem_append_left _ (List.mem_of_getElem? (i := 0) rfl)))) (fun _ h9 => h9) rfl dX12_undo_41 ?_
          refine lv_imul hx hb dX12_undo_44 ?_
          refine lv_topi (fun t25 et25 => ?_)
          have gt25 : t25.toInt = 247 * t2.toInt := pv_mul (a := 247) (b := t2.toInt) et25 (by decide) rfl (by omega) (by omega)
          refine lv_iload_n hx hb dX12_undo_45 rfl (lv_at hl 0 rfl) ?_
          refine lv_iadd hx hb dX12_undo_46 ?_
          refine lv_topi (fun t26 et26 => ?_)
          have gt26 : t26.toInt = t25.toInt + x19.toInt := pv_add (a := t25.toInt) (b := x19.toInt) et26 rfl rfl (by omega) (by omega)
          refine va_iald hx hb hK hP 2 1 rfl rfl (vp_in_iff.mpr ⟨by omega, by omega⟩) dX12_undo_47 ?_
          refine lv_topi (fun t27 et27 => ?_)
          refine va_iast hx hb hK hP hD hS 1 0 rfl rfl (vp_in_iff.mpr ⟨by omega, by omega⟩) dX12_undo_48 (fun H locs hP hD hS => ?_)
          obtain ⟨fn28, efn28⟩ : ∃ g : Nat → Int32, g = upd fn20 (Int32.toNatClampNeg x19) t27 := ⟨_, rfl⟩
          rw [← efn28] at hP hD
          have ia_fn28 : pm_ANY fn28 := trivial
          have hP : va_P (dC, dI) vwCl (wd_baa7feb8 h0 v0 r0 v1 v2 v3 v4 r1 r2 r3 r4 r5 r6 r7 v5 v6 r8 r9 r10 r11 v7 r12 r13 v8 v9 h1 r14 v10 v11 r15 v12 v13 h2 t2 w15 r16 v16 v17 r17 r18 r19 r20 r21 r22 v18 r23 r24 r25 v19 h1 g0 fn28 h2 g1 f21) H := hP
          have hD : va_D A (wd_baa7feb8 h0 v0 r0 v1 v2 v3 v4 r1 r2 r3 r4 r5 r6 r7 v5 v6 r8 r9 r10 r11 v7 r12 r13 v8 v9 h1 r14 v10 v11 r15 v12 v13 h2 t2 w15 r16 v16 v17 r17 r18 r19 r20 r21 r22 v18 r23 r24 r25 v19 h1 g0 fn28 h2 g1 f21) := hD
          obtain ⟨t29, et29⟩ : ∃ y : Int32, y = x19 + 1 := ⟨_, rfl⟩
          have gt29 : t29.toInt = x19.toInt + (1) := pv_add (a := x19.toInt) (b := (1)) et29 rfl (by decide) (by omega) (by omega)
          refine lv_iinc (v := t29) (lv' := [(1, .int t29), (0, .ref h0)]) hx hb dX12_undo_49 hl (k := 0) rfl (by rw [et29]; rfl) (by decide) rfl (fun ls hl => ?_)
          refine lv_goto (tgt := 21) hx hb dX12_undo_52 (by decide) ?_
          exact ih_hL23 t29 fn28 H locs ls (by first | omega | decide) (by first | omega | decide) ia_fn28 (by first | exact pm_cp.zero (by decide) | (apply pm_cp.step <;> first | assumption | omega)) (by first | omega | (simp only [Int.toNat] at *; omega)) hP hD hS (lv_sub hl [0, 1] rfl)
    exact hL23 _ 0 f20 H locs ls (by decide) (by decide) trivial (by first | exact pm_cp.zero (by decide) | (apply pm_cp.step <;> first | assumption | omega)) (Nat.lt_succ_self _) hP hD hS (lv_sub hl [0, 1] rfl)
  · skip
    have fc1 : v14.toInt = 0 := congrArg Int32.toInt c1
    refine lv_iconst (v := (-1)) hx hb dX12_undo_7 (by decide) ?_
    subst hQ
    have hP9 := hP.sub (ws' := (wd_baa7feb8 h0 v0 r0 v1 v2 v3 v4 r1 r2 r3 r4 r5 r6 r7 v5 v6 r8 r9 r10 r11 v7 r12 r13 v8 v9 h1 r14 v10 v11 r15 v12 v13 h2 v14 w15 r16 v16 v17 r17 r18 r19 r20 r21 r22 v18 r23 r24 r25 v19 h1 g0 f20 h2 g1 f21)) [0, 1, 2] rfl
    have hD9 := hD.sub (ws' := (wd_baa7feb8 h0 v0 r0 v1 v2 v3 v4 r1 r2 r3 r4 r5 r6 r7 v5 v6 r8 r9 r10 r11 v7 r12 r13 v8 v9 h1 r14 v10 v11 r15 v12 v13 h2 v14 w15 r16 v16 v17 r17 r18 r19 r20 r21 r22 v18 r23 r24 r25 v19 h1 g0 f20 h2 g1 f21)) [0, 1, 2] (by decide) rfl
    have hK9 := hK.sub (tys' := []) [] rfl
    exact W.iret (v := (-1)) hx hb hr (fun t ht hW => ⟨⟨(-1), (-1), rfl, rfl, ⟨v14, f20, i_v14a, by first | omega | decide, ia_f20, by first | omega | decide, by first | omega | decide, by rw [ht]; exact hP9, va_K.moved hW.alike hK9, hD9⟩⟩, hS.F ht⟩) hS.2.2 dX12_undo_8
def q_X12_image : List Cond := .code yX12_image cX12_image 2 (some .int) :: (([.fieldLink RX12 262 "LeftArgumentsModel" "isOffice" "Z", .fieldLink RX12 278 "LeftArgumentsModel" "hasImage" "Z", .fieldLink RX12 52 "LeftArgumentsModel" "now" "[I", .fieldLink RX12 99 "LeftArgumentsModel" "image" "[I"] : List Cond) ++ wsX120)
set_option maxHeartbeats 4000000 in
set_option maxRecDepth 100000 in
theorem k_X12_image (l : Launch) (dC : Nat → ClassId) (dI : Nat → Nat → Nat) (h0 : Nat) (h1 : Nat) (h2 : Nat) (v0 : Int32) (r0 : Nat) (v1 : Int32) (v2 : Int32) (v3 : Int32) (v4 : Int32) (r1 : Nat) (r2 : Nat) (r3 : Nat) (r4 : Nat) (r5 : Nat) (r6 : Nat) (r7 : Nat) (v5 : Int32) (v6 : Int32) (r8 : Nat) (r9 : Nat) (r10 : Nat) (r11 : Nat) (v7 : Int32) (r12 : Nat) (r13 : Nat) (v8 : Int32) (v9 : Int32) (r14 : Nat) (v10 : Int32) (v11 : Int32) (r15 : Nat) (v12 : Int32) (v13 : Int32) (r16 : Nat) (v14 : Int32) (w15 : Int64) (r17 : Nat) (v16 : Int32) (v17 : Int32) (r18 : Nat) (r19 : Nat) (r20 : Nat) (r21 : Nat) (r22 : Nat) (r23 : Nat) (v18 : Int32) (r24 : Nat) (r25 : Nat) (v19 : Int32) (g0 : ClassId) (f20 : Nat → Int32) (g1 : ClassId) (f21 : Nat → Int32) (i_v1 : 0 ≤ v1.toInt ∧ v1.toInt ≤ 240) (i_v5 : 0 ≤ v5.toInt ∧ v5.toInt ≤ 4) (i_v6 : 0 ≤ v6.toInt ∧ v6.toInt ≤ 4) (i_v7 : 0 ≤ v7.toInt ∧ v7.toInt ≤ 8) (i_v8 : 0 ≤ v8.toInt ∧ v8.toInt ≤ 8) (i_v9 : 0 ≤ v9.toInt ∧ v9.toInt ≤ 1) (i_v10 : -1 ≤ v10.toInt ∧ v10.toInt ≤ 3) (i_v14 : 0 ≤ v14.toInt ∧ v14.toInt ≤ 40) (i_v18 : 0 ≤ v18.toInt ∧ v18.toInt ≤ 10) (i_v19 : 0 ≤ v19.toInt ∧ v19.toInt ≤ 1) (ia_f20 : (pm_NW f20)) (ia_f21 : (pm_NW f21)) (sz : Nat) : Met l yX12_image q_X12_image ({ frames := 0, cells := 0, slots := 0, locals := 0 }) (va_Pc [.ref h0] (fun U => U.heap.size = sz ∧ va_P (dC, dI) vwCl (wd_29945385 h0 v0 r0 v1 v2 v3 v4 r1 r2 r3 r4 r5 r6 r7 v5 v6 r8 r9 r10 r11 v7 r12 r13 v8 v9 h1 r14 v10 v11 r15 v12 v13 r16 v14 w15 r17 v16 v17 r18 r19 r20 r21 r22 r23 v18 r24 r25 h2 v19 h1 g0 f20 h2 g1 f21) U.heap ∧ va_K (dC, dI) vwCl [(g0, .int), (g1, .int)] U ∧ va_D (fun _ => True) (wd_29945385 h0 v0 r0 v1 v2 v3 v4 r1 r2 r3 r4 r5 r6 r7 v5 v6 r8 r9 r10 r11 v7 r12 r13 v8 v9 h1 r14 v10 v11 r15 v12 v13 r16 v14 w15 r17 v16 v17 r18 r19 r20 r21 r22 r23 v18 r24 r25 h2 v19 h1 g0 f20 h2 g1 f21))) (va_Qi (fun (r : Int32) (r9 : Int32) => r9 = r) (fun (r : Int32) (t : State) => (∃ (o_h0_47 : Int32) (o_h2 : Nat → Int32), 0 ≤ o_h0_47.toInt ∧ o_h0_47.toInt ≤ 1 ∧ (pm_NW o_h2) ∧ va_P (dC, dI) vwCl (wd_29945385 h0 v0 r0 v1 v2 v3 v4 r1 r2 r3 r4 r5 r6 r7 v5 v6 r8 r9 r10 r11 v7 r12 r13 v8 v9 h1 r14 v10 v11 r15 v12 v13 r16 v14 w15 r17 v16 v17 r18 r19 r20 r21 r22 r23 v18 r24 r25 h2 o_h0_47 h1 g0 f20 h2 g1 o_h2) t.heap ∧ va_K (dC, dI) vwCl [] t ∧ va_D (va_A (wd_29945385 h0 v0 r0 v1 v2 v3 v4 r1 r2 r3 r4 r5 r6 r7 v5 v6 r8 r9 r10 r11 v7 r12 r13 v8 v9 h1 r14 v10 v11 r15 v12 v13 r16 v14 w15 r17 v16 v17 r18 r19 r20 r21 r22 r23 v18 r24 r25 h2 v19 h1 g0 f20 h2 g1 f21) sz) (wd_29945385 h0 v0 r0 v1 v2 v3 v4 r1 r2 r3 r4 r5 r6 r7 v5 v6 r8 r9 r10 r11 v7 r12 r13 v8 v9 h1 r14 v10 v11 r15 v12 v13 r16 v14 w15 r17 v16 v17 r18 r19 r20 r21 r22 r23 v18 r24 r25 h2 o_h0_47 h1 g0 f20 h2 g1 o_h2))) (va_A (wd_29945385 h0 v0 r0 v1 v2 v3 v4 r1 r2 r3 r4 r5 r6 r7 v5 v6 r8 r9 r10 r11 v7 r12 r13 v8 v9 h1 r14 v10 v11 r15 v12 v13 r16 v14 w15 r17 v16 v17 r18 r19 r20 r21 r22 r23 v18 r24 r25 h2 v19 h1 g0 f20 h2 g1 f21) sz)) 0 0 (va_A (wd_29945385 h0 v0 r0 v1 v2 v3 v4 r1 r2 r3 r4 r5 r6 r7 v5 v6 r8 r9 r10 r11 v7 r12 r13 v8 v9 h1 r14 v10 v11 r15 v12 v13 r16 v14 w15 r17 v16 v17 r18 r19 r20 r21 r22 r23 v18 r24 r25 h2 v19 h1 g0 f20 h2 g1 f21) sz) := by
  refine Met.ofW (cc := cX12_image) (maxL := 2) (ret := (some .int)) (by decide) rfl ?_
  intro p e s m args below meth c s₁ B hml hv
  obtain ⟨i_v1a, i_v1b⟩ := i_v1
  obtain ⟨i_v5a, i_v5b⟩ := i_v5
  obtain ⟨i_v6a, i_v6b⟩ := i_v6
  obtain ⟨i_v7a, i_v7b⟩ := i_v7
  obtain ⟨i_v8a, i_v8b⟩ := i_v8
  obtain ⟨i_v9a, i_v9b⟩ := i_v9
  obtain ⟨i_v10a, i_v10b⟩ := i_v10
  obtain ⟨i_v14a, i_v14b⟩ := i_v14
  obtain ⟨i_v18a, i_v18b⟩ := i_v18
  obtain ⟨i_v19a, i_v19b⟩ := i_v19
  obtain ⟨rfl, hsz, hP, hK, hD0⟩ := hv
  have hx := B.exec
  have hb := B.bytes
  have hr := B.returns
  have hts := atoms_spec (ws := q_X12_image) B.pre
  have hown : s.vm.findClass RX12 = some m.cls := findClass_of_methodNamed B.named
  have hlocks := B.notSynchronized
  subst hsz
  have hD := hD0.self (sz := s.heap.size)
  generalize hAe : va_A (wd_29945385 h0 v0 r0 v1 v2 v3 v4 r1 r2 r3 r4 r5 r6 r7 v5 v6 r8 r9 r10 r11 v7 r12 r13 v8 v9 h1 r14 v10 v11 r15 v12 v13 r16 v14 w15 r17 v16 v17 r18 r19 r20 r21 r22 r23 v18 r24 r25 h2 v19 h1 g0 f20 h2 g1 f21) s.heap.size = A at hD ⊢
  have hA : ∀ q : Nat, s.heap.size ≤ q → A q := fun q h => by rw [← hAe]; exact Or.inr h
  have hS : va_S A s.heap s.heap [] := va_S.rf
  generalize hQ : (MQ below _ _ s 0 0 A) = Q
  have hl := lv_entry ([.ref h0]) (n := 2) (Nat.le_of_ble_eq_true rfl)
  rw [lg_entry_eq]
  generalize (lg_sl ([.ref h0]) ++ List.replicate (2 - (lg_sl ([.ref h0])).length) Slot.unset).toArray = ls at hl ⊢
  have hl : lv_has ls 2 [(0, .ref h0)] := hl
  obtain ⟨H, hH⟩ : ∃ H : Heap, H = s.heap := ⟨_, rfl⟩
  obtain ⟨locs, hlocs⟩ : ∃ y : List Loc, y = [] := ⟨_, rfl⟩
  have hS : va_S A s.heap H locs := by rw [hH, hlocs]; exact va_S.rf
  have hP : va_P (dC, dI) vwCl (wd_29945385 h0 v0 r0 v1 v2 v3 v4 r1 r2 r3 r4 r5 r6 r7 v5 v6 r8 r9 r10 r11 v7 r12 r13 v8 v9 h1 r14 v10 v11 r15 v12 v13 r16 v14 w15 r17 v16 v17 r18 r19 r20 r21 r22 r23 v18 r24 r25 h2 v19 h1 g0 f20 h2 g1 f21) H := by rw [hH]; exact hP
  rw [← hH, ← hlocs]
  refine lv_aload_n hx hb dX12_image_0 rfl (lv_at hl 0 rfl) ?_
  refine va_get (D := (dC, dI)) (ci := 12) (v := .int v9) (C := RX12) (T := TX12) (N := 48) hx hb hts (fun _ h => List.mem_cons_of_mem _ (List.mem_append_right _ h)) hown hK hP 0 rfl rfl 23 (by decide) (hts (.fieldLink RX12 262 "LeftArgumentsModel" "isOffice" "Z") (List.mem_cons_of_mem _ (List.mem_append_left _ (List.mem_of_getElem? (i := 0) rfl)))) (fun _ h9 => h9) rfl dX12_image_1 ?_
  refine lv_if_ne (tgt := 9) hx hb dX12_image_4 (by decide) (fun c1 => ?_) (fun c1 => ?_)
  · skip
    have fc1 : ¬ (v9.toInt = 0) := fun h9 => c1 (Int32.toInt_inj.mp h9)
    refine lv_iconst (v := 0) hx hb dX12_image_9 (by decide) ?_
    refine lv_istore_n (lv' := [(1, .int 0), (0, .ref h0)]) hx hb dX12_image_10 rfl hl (by decide) rfl (fun ls hl => ?_)
    have hL26 : ∀ (n9 : Nat), ∀ (x22 : Int32) (fn23 : Nat → Int32) (H : Heap) (locs : List Loc) (ls : Array Slot), 0 ≤ x22.toInt → x22.toInt ≤ 247 → (pm_ANY fn23) → (fn23 = va_cpy f20 f21 0 0 x22.toInt.toNat) → (247 - x22.toInt).toNat < n9 → va_P (dC, dI) vwCl (wd_29945385 h0 v0 r0 v1 v2 v3 v4 r1 r2 r3 r4 r5 r6 r7 v5 v6 r8 r9 r10 r11 v7 r12 r13 v8 v9 h1 r14 v10 v11 r15 v12 v13 r16 v14 w15 r17 v16 v17 r18 r19 r20 r21 r22 r23 v18 r24 r25 h2 v19 h1 g0 f20 h2 g1 fn23) H → va_D A (wd_29945385 h0 v0 r0 v1 v2 v3 v4 r1 r2 r3 r4 r5 r6 r7 v5 v6 r8 r9 r10 r11 v7 r12 r13 v8 v9 h1 r14 v10 v11 r15 v12 v13 r16 v14 w15 r17 v16 v17 r18 r19 r20 r21 r22 r23 v18 r24 r25 h2 v19 h1 g0 f20 h2 g1 fn23) → va_S A s.heap H locs → lv_has ls 2 [(1, .int x22), (0, .ref h0)] → W p l e ({ frames := 0, cells := 0, slots := 0, locals := 0 }) s m ([.ref h0] : List Value).toArray below meth c H locs 0 0 Q (F0 m 11 ls []) := by
      intro n9
      induction n9 with
      | zero => intro x22 fn23 H locs ls qa_x22 qb_x22 ia_fn23 gh0_hL26 hm9 hP hD hS hl; exact absurd hm9 (Nat.not_lt_zero _)
      | succ n9 ih_hL26 =>
        intro x22 fn23 H locs ls qa_x22 qb_x22 ia_fn23 gh0_hL26 hm9 hP hD hS hl
        refine lv_iload_n hx hb dX12_image_11 rfl (lv_at hl 0 rfl) ?_
        refine lv_sipush (v := 247) hx hb dX12_image_12 (by decide) ?_
        refine lv_icmp_ge (tgt := 36) hx hb dX12_image_15 (by decide) (fun c27 => ?_) (fun c27 => ?_)
        · skip
          have fc27 : 247 ≤ x22.toInt := Int32.le_iff_toInt_le.mp c27
          refine lv_aload_n hx hb dX12_image_36 rfl (lv_at hl 1 rfl) ?_
          have ia_fn23 : pm_NW fn23 := by apply pm_NW.cp <;> first | assumption | omega
          refine lv_iconst (v := 1) hx hb dX12_image_37 (by decide) ?_
          refine va_put (D := (dC, dI)) (ci := 12) (v := .int 1) (ty := .boolean) (C := RX12) (T := TX12) (N := 48) hx hb hts (fun _ h => List.mem_cons_of_mem _ (List.mem_append_right _ h)) tyX12 tyX12_ok nmX12 hown hK hP hD hS 0 rfl rfl 47 (by decide) (hts (.fieldLink RX12 278 "LeftArgumentsModel" "hasImage" "Z") (List.mem_cons_of_mem _ (List.mem_append_left _ (List.mem_of_getElem? (i := 1) rfl)))) (fun _ h9 => h9) rfl (by decide +kernel) rfl rfl (Nat.le_of_ble_eq_true rfl) dX12_image_38 (fun H locs hP hD hS => ?_)
          have hP : va_P (dC, dI) vwCl (wd_29945385 h0 v0 r0 v1 v2 v3 v4 r1 r2 r3 r4 r5 r6 r7 v5 v6 r8 r9 r10 r11 v7 r12 r13 v8 v9 h1 r14 v10 v11 r15 v12 v13 r16 v14 w15 r17 v16 v17 r18 r19 r20 r21 r22 r23 v18 r24 r25 h2 1 h1 g0 f20 h2 g1 fn23) H := hP
          have hD : va_D A (wd_29945385 h0 v0 r0 v1 v2 v3 v4 r1 r2 r3 r4 r5 r6 r7 v5 v6 r8 r9 r10 r11 v7 r12 r13 v8 v9 h1 r14 v10 v11 r15 v12 v13 r16 v14 w15 r17 v16 v17 r18 r19 r20 r21 r22 r23 v18 r24 r25 h2 1 h1 g0 f20 h2 g1 fn23) := hD
          refine lv_aload_n hx hb dX12_image_41 rfl (lv_at hl 1 rfl) ?_
          refine va_get (D := (dC, dI)) (ci := 12) (v := .ref h1) (C := RX12) (T := TX12) (N := 48) hx hb hts (fun _ h => List.mem_cons_of_mem _ (List.mem_append_right _ h)) hown hK hP 0 rfl rfl 24 (by decide) (hts (.fieldLink RX12 52 "LeftArgumentsModel" "now" "[I") (List.mem_cons_of_mem _ (List.mem_append_left _ (List.mem_of_getElem? (i := 2) rfl)))) (fun _ h9 => h9) rfl dX12_image_42 ?_
          refine lv_bipush (v := 65) hx hb dX12_image_45 (by decide) ?_
          refine va_iald hx hb hK hP 1 0 rfl rfl (pv_c (x := 65) (n := 247) (by decide)) dX12_image_47 ?_
          refine lv_topi (fun t28 et28 => ?_)
          have mmt28 : f20 (Int32.toNatClampNeg 65) = t28 := et28.symm
          subst hQ
          have hP9 := hP.sub (ws' := (wd_29945385 h0 v0 r0 v1 v2 v3 v4 r1 r2 r3 r4 r5 r6 r7 v5 v6 r8 r9 r10 r11 v7 r12 r13 v8 v9 h1 r14 v10 v11 r15 v12 v13 r16 v14 w15 r17 v16 v17 r18 r19 r20 r21 r22 r23 v18 r24 r25 h2 1 h1 g0 f20 h2 g1 fn23)) [0, 1, 2] rfl
          have hD9 := hD.sub (ws' := (wd_29945385 h0 v0 r0 v1 v2 v3 v4 r1 r2 r3 r4 r5 r6 r7 v5 v6 r8 r9 r10 r11 v7 r12 r13 v8 v9 h1 r14 v10 v11 r15 v12 v13 r16 v14 w15 r17 v16 v17 r18 r19 r20 r21 r22 r23 v18 r24 r25 h2 1 h1 g0 f20 h2 g1 fn23)) [0, 1, 2] (by decide) rfl
          have hK9 := hK.sub (tys' := []) [] rfl
          exact W.iret (v := t28) hx hb hr (fun t ht hW => ⟨⟨t28, t28, rfl, rfl, ⟨1, fn23, by decide, by decide, ia_fn23, by rw [ht]; exact hP9, va_K.moved hW.alike hK9, hD9⟩⟩, hS.F ht⟩) hS.2.2 dX12_image_48
        · skip
          have fc27 : ¬ (247 ≤ x22.toInt) := fun h9 => c27 (Int32.le_iff_toInt_le.mpr h9)
          refine lv_aload_n hx hb dX12_image_18 rfl (lv_at hl 1 rfl) ?_
          refine va_get (D := (dC, dI)) (ci := 12) (v := .ref h2) (C := RX12) (T := TX12) (N := 48) hx hb hts (fun _ h => List.mem_cons_of_mem _ (List.mem_append_right _ h)) hown hK hP 0 rfl rfl 46 (by decide) (hts (.fieldLink RX12 99 "LeftArgumentsModel" "image" "[I") (List.mem_cons_of_mem _ (List.mem_append_left _ (List.mem_of_getElem? (i := 3) rfl)))) (fun _ h9 => h9) rfl dX12_image_19 ?_
          refine lv_iload_n hx hb dX12_image_22 rfl (lv_at hl 0 rfl) ?_
          refine lv_aload_n hx hb dX12_image_23 rfl (lv_at hl 1 rfl) ?_
          refine va_get (D := (dC, dI)) (ci := 12) (v := .ref h1) (C := RX12) (T := TX12) (N := 48) hx hb hts (fun _ h => List.mem_cons_of_mem _ (List.mem_append_right _ h)) hown hK hP 0 rfl rfl 24 (by decide) (hts (.fieldLink RX12 52 "LeftArgumentsModel" "now" "[I") (List.mem_cons_of_mem _ (List.mem_append_left _ (List.mem_of_getElem? (i := 2) rfl)))) (fun _ h9 => h9) rfl dX12_image_24 ?_
          refine lv_iload_n hx hb dX12_image_27 rfl (lv_at hl 0 rfl) ?_
          refine va_iald hx hb hK hP 1 0 rfl rfl (vp_in_iff.mpr ⟨by omega, by omega⟩) dX12_image_28 ?_
          refine lv_topi (fun t29 et29 => ?_)
          refine va_iast hx hb hK hP hD hS 2 1 rfl rfl (vp_in_iff.mpr ⟨by omega, by omega⟩) dX12_image_29 (fun H locs hP hD hS => ?_)
          obtain ⟨fn30, efn30⟩ : ∃ g : Nat → Int32, g = upd fn23 (Int32.toNatClampNeg x22) t29 := ⟨_, rfl⟩
          rw [← efn30] at hP hD
          have ia_fn30 : pm_ANY fn30 := trivial
          have hP : va_P (dC, dI) vwCl (wd_29945385 h0 v0 r0 v1 v2 v3 v4 r1 r2 r3 r4 r5 r6 r7 v5 v6 r8 r9 r10 r11 v7 r12 r13 v8 v9 h1 r14 v10 v11 r15 v12 v13 r16 v14 w15 r17 v16 v17 r18 r19 r20 r21 r22 r23 v18 r24 r25 h2 v19 h1 g0 f20 h2 g1 fn30) H := hP
          have hD : va_D A (wd_29945385 h0 v0 r0 v1 v2 v3 v4 r1 r2 r3 r4 r5 r6 r7 v5 v6 r8 r9 r10 r11 v7 r12 r13 v8 v9 h1 r14 v10 v11 r15 v12 v13 r16 v14 w15 r17 v16 v17 r18 r19 r20 r21 r22 r23 v18 r24 r25 h2 v19 h1 g0 f20 h2 g1 fn30) := hD
          obtain ⟨t31, et31⟩ : ∃ y : Int32, y = x22 + 1 := ⟨_, rfl⟩
          have gt31 : t31.toInt = x22.toInt + (1) := pv_add (a := x22.toInt) (b := (1)) et31 rfl (by decide) (by omega) (by omega)
          refine lv_iinc (v := t31) (lv' := [(1, .int t31), (0, .ref h0)]) hx hb dX12_image_30 hl (k := 0) rfl (by rw [et31]; rfl) (by decide) rfl (fun ls hl => ?_)
          refine lv_goto (tgt := 11) hx hb dX12_image_33 (by decide) ?_
          exact ih_hL26 t31 fn30 H locs ls (by first | omega | decide) (by first | omega | decide) ia_fn30 (by first | exact pm_cp.zero (by decide) | (apply pm_cp.step <;> first | assumption | omega)) (by first | omega | (simp only [Int.toNat] at *; omega)) hP hD hS (lv_sub hl [0, 1] rfl)
    exact hL26 _ 0 f21 H locs ls (by decide) (by decide) trivial (by first | exact pm_cp.zero (by decide) | (apply pm_cp.step <;> first | assumption | omega)) (Nat.lt_succ_self _) hP hD hS (lv_sub hl [0, 1] rfl)
  · skip
    have fc1 : v9.toInt = 0 := congrArg Int32.toInt c1
    refine lv_iconst (v := (-1)) hx hb dX12_image_7 (by decide) ?_
    subst hQ
    have hP9 := hP.sub (ws' := (wd_29945385 h0 v0 r0 v1 v2 v3 v4 r1 r2 r3 r4 r5 r6 r7 v5 v6 r8 r9 r10 r11 v7 r12 r13 v8 v9 h1 r14 v10 v11 r15 v12 v13 r16 v14 w15 r17 v16 v17 r18 r19 r20 r21 r22 r23 v18 r24 r25 h2 v19 h1 g0 f20 h2 g1 f21)) [0, 1, 2] rfl
    have hD9 := hD.sub (ws' := (wd_29945385 h0 v0 r0 v1 v2 v3 v4 r1 r2 r3 r4 r5 r6 r7 v5 v6 r8 r9 r10 r11 v7 r12 r13 v8 v9 h1 r14 v10 v11 r15 v12 v13 r16 v14 w15 r17 v16 v17 r18 r19 r20 r21 r22 r23 v18 r24 r25 h2 v19 h1 g0 f20 h2 g1 f21)) [0, 1, 2] (by decide) rfl
    have hK9 := hK.sub (tys' := []) [] rfl
    exact W.iret (v := (-1)) hx hb hr (fun t ht hW => ⟨⟨(-1), (-1), rfl, rfl, ⟨v19, f21, i_v19a, i_v19b, ia_f21, by rw [ht]; exact hP9, va_K.moved hW.alike hK9, hD9⟩⟩, hS.F ht⟩) hS.2.2 dX12_image_8
def q_X12_back : List Cond := .code yX12_back cX12_back 2 (some .int) :: (([.fieldLink RX12 278 "LeftArgumentsModel" "hasImage" "Z", .fieldLink RX12 275 "LeftArgumentsModel" "acts" "I", .fieldLink RX12 52 "LeftArgumentsModel" "now" "[I", .fieldLink RX12 99 "LeftArgumentsModel" "image" "[I"] : List Cond) ++ wsX120)
set_option maxHeartbeats 4000000 in
set_option maxRecDepth 100000 in
theorem k_X12_back (l : Launch) (dC : Nat → ClassId) (dI : Nat → Nat → Nat) (h0 : Nat) (h1 : Nat) (h2 : Nat) (v0 : Int32) (r0 : Nat) (v1 : Int32) (v2 : Int32) (v3 : Int32) (v4 : Int32) (r1 : Nat) (r2 : Nat) (r3 : Nat) (r4 : Nat) (r5 : Nat) (r6 : Nat) (r7 : Nat) (v5 : Int32) (v6 : Int32) (r8 : Nat) (r9 : Nat) (r10 : Nat) (r11 : Nat) (v7 : Int32) (r12 : Nat) (r13 : Nat) (v8 : Int32) (v9 : Int32) (r14 : Nat) (v10 : Int32) (v11 : Int32) (r15 : Nat) (v12 : Int32) (v13 : Int32) (r16 : Nat) (v14 : Int32) (w15 : Int64) (r17 : Nat) (v16 : Int32) (v17 : Int32) (r18 : Nat) (r19 : Nat) (r20 : Nat) (r21 : Nat) (r22 : Nat) (r23 : Nat) (v18 : Int32) (r24 : Nat) (r25 : Nat) (v19 : Int32) (g0 : ClassId) (f20 : Nat → Int32) (g1 : ClassId) (f21 : Nat → Int32) (i_v1 : 0 ≤ v1.toInt ∧ v1.toInt ≤ 240) (i_v5 : 0 ≤ v5.toInt ∧ v5.toInt ≤ 4) (i_v6 : 0 ≤ v6.toInt ∧ v6.toInt ≤ 4) (i_v7 : 0 ≤ v7.toInt ∧ v7.toInt ≤ 8) (i_v8 : 0 ≤ v8.toInt ∧ v8.toInt ≤ 8) (i_v9 : 0 ≤ v9.toInt ∧ v9.toInt ≤ 1) (i_v10 : -1 ≤ v10.toInt ∧ v10.toInt ≤ 3) (i_v14 : 0 ≤ v14.toInt ∧ v14.toInt ≤ 40) (i_v18 : 0 ≤ v18.toInt ∧ v18.toInt ≤ 10) (i_v19 : 0 ≤ v19.toInt ∧ v19.toInt ≤ 1) (ia_f20 : (pm_NW f20)) (ia_f21 : (pm_NW f21)) (sz : Nat) : Met l yX12_back q_X12_back ({ frames := 0, cells := 0, slots := 0, locals := 0 }) (va_Pc [.ref h0] (fun U => U.heap.size = sz ∧ va_P (dC, dI) vwCl (wd_29945385 h0 v0 r0 v1 v2 v3 v4 r1 r2 r3 r4 r5 r6 r7 v5 v6 r8 r9 r10 r11 v7 r12 r13 v8 v9 h1 r14 v10 v11 r15 v12 v13 r16 v14 w15 r17 v16 v17 r18 r19 r20 r21 r22 r23 v18 r24 r25 h2 v19 h1 g0 f20 h2 g1 f21) U.heap ∧ va_K (dC, dI) vwCl [(g0, .int), (g1, .int)] U ∧ va_D (fun _ => True) (wd_29945385 h0 v0 r0 v1 v2 v3 v4 r1 r2 r3 r4 r5 r6 r7 v5 v6 r8 r9 r10 r11 v7 r12 r13 v8 v9 h1 r14 v10 v11 r15 v12 v13 r16 v14 w15 r17 v16 v17 r18 r19 r20 r21 r22 r23 v18 r24 r25 h2 v19 h1 g0 f20 h2 g1 f21))) (va_Qi (fun (r : Int32) (r9 : Int32) => r9 = r) (fun (r : Int32) (t : State) => (∃ (o_h0_32 : Int32) (o_h1 : Nat → Int32), 0 ≤ o_h0_32.toInt ∧ o_h0_32.toInt ≤ 40 ∧ (pm_NW o_h1) ∧ va_P (dC, dI) vwCl (wd_29945385 h0 v0 r0 v1 v2 v3 v4 r1 r2 r3 r4 r5 r6 r7 v5 v6 r8 r9 r10 r11 v7 r12 r13 v8 v9 h1 r14 v10 v11 r15 v12 v13 r16 o_h0_32 w15 r17 v16 v17 r18 r19 r20 r21 r22 r23 v18 r24 r25 h2 v19 h1 g0 o_h1 h2 g1 f21) t.heap ∧ va_K (dC, dI) vwCl [] t ∧ va_D (va_A (wd_29945385 h0 v0 r0 v1 v2 v3 v4 r1 r2 r3 r4 r5 r6 r7 v5 v6 r8 r9 r10 r11 v7 r12 r13 v8 v9 h1 r14 v10 v11 r15 v12 v13 r16 v14 w15 r17 v16 v17 r18 r19 r20 r21 r22 r23 v18 r24 r25 h2 v19 h1 g0 f20 h2 g1 f21) sz) (wd_29945385 h0 v0 r0 v1 v2 v3 v4 r1 r2 r3 r4 r5 r6 r7 v5 v6 r8 r9 r10 r11 v7 r12 r13 v8 v9 h1 r14 v10 v11 r15 v12 v13 r16 o_h0_32 w15 r17 v16 v17 r18 r19 r20 r21 r22 r23 v18 r24 r25 h2 v19 h1 g0 o_h1 h2 g1 f21))) (va_A (wd_29945385 h0 v0 r0 v1 v2 v3 v4 r1 r2 r3 r4 r5 r6 r7 v5 v6 r8 r9 r10 r11 v7 r12 r13 v8 v9 h1 r14 v10 v11 r15 v12 v13 r16 v14 w15 r17 v16 v17 r18 r19 r20 r21 r22 r23 v18 r24 r25 h2 v19 h1 g0 f20 h2 g1 f21) sz)) 0 0 (va_A (wd_29945385 h0 v0 r0 v1 v2 v3 v4 r1 r2 r3 r4 r5 r6 r7 v5 v6 r8 r9 r10 r11 v7 r12 r13 v8 v9 h1 r14 v10 v11 r15 v12 v13 r16 v14 w15 r17 v16 v17 r18 r19 r20 r21 r22 r23 v18 r24 r25 h2 v19 h1 g0 f20 h2 g1 f21) sz) := by
  refine Met.ofW (cc := cX12_back) (maxL := 2) (ret := (some .int)) (by decide) rfl ?_
  intro p e s m args below meth c s₁ B hml hv
  obtain ⟨i_v1a, i_v1b⟩ := i_v1
  obtain ⟨i_v5a, i_v5b⟩ := i_v5
  obtain ⟨i_v6a, i_v6b⟩ := i_v6
  obtain ⟨i_v7a, i_v7b⟩ := i_v7
  obtain ⟨i_v8a, i_v8b⟩ := i_v8
  obtain ⟨i_v9a, i_v9b⟩ := i_v9
  obtain ⟨i_v10a, i_v10b⟩ := i_v10
  obtain ⟨i_v14a, i_v14b⟩ := i_v14
  obtain ⟨i_v18a, i_v18b⟩ := i_v18
  obtain ⟨i_v19a, i_v19b⟩ := i_v19
  obtain ⟨rfl, hsz, hP, hK, hD0⟩ := hv
  have hx := B.exec
  have hb := B.bytes
  have hr := B.returns
  have hts := atoms_spec (ws := q_X12_back) B.pre
  have hown : s.vm.findClass RX12 = some m.cls := findClass_of_methodNamed B.named
  have hlocks := B.notSynchronized
  subst hsz
  have hD := hD0.self (sz := s.heap.size)
  generalize hAe : va_A (wd_29945385 h0 v0 r0 v1 v2 v3 v4 r1 r2 r3 r4 r5 r6 r7 v5 v6 r8 r9 r10 r11 v7 r12 r13 v8 v9 h1 r14 v10 v11 r15 v12 v13 r16 v14 w15 r17 v16 v17 r18 r19 r20 r21 r22 r23 v18 r24 r25 h2 v19 h1 g0 f20 h2 g1 f21) s.heap.size = A at hD ⊢
  have hA : ∀ q : Nat, s.heap.size ≤ q → A q := fun q h => by rw [← hAe]; exact Or.inr h
  have hS : va_S A s.heap s.heap [] := va_S.rf
  generalize hQ : (MQ below _ _ s 0 0 A) = Q
  have hl := lv_entry ([.ref h0]) (n := 2) (Nat.le_of_ble_eq_true rfl)
  rw [lg_entry_eq]
  generalize (lg_sl ([.ref h0]) ++ List.replicate (2 - (lg_sl ([.ref h0])).length) Slot.unset).toArray = ls at hl ⊢
  have hl : lv_has ls 2 [(0, .ref h0)] := hl
  obtain ⟨H, hH⟩ : ∃ H : Heap, H = s.heap := ⟨_, rfl⟩
  obtain ⟨locs, hlocs⟩ : ∃ y : List Loc, y = [] := ⟨_, rfl⟩
  have hS : va_S A s.heap H locs := by rw [hH, hlocs]; exact va_S.rf
  have hP : va_P (dC, dI) vwCl (wd_29945385 h0 v0 r0 v1 v2 v3 v4 r1 r2 r3 r4 r5 r6 r7 v5 v6 r8 r9 r10 r11 v7 r12 r13 v8 v9 h1 r14 v10 v11 r15 v12 v13 r16 v14 w15 r17 v16 v17 r18 r19 r20 r21 r22 r23 v18 r24 r25 h2 v19 h1 g0 f20 h2 g1 f21) H := by rw [hH]; exact hP
  rw [← hH, ← hlocs]
  refine lv_aload_n hx hb dX12_back_0 rfl (lv_at hl 0 rfl) ?_
  refine va_get (D := (dC, dI)) (ci := 12) (v := .int v19) (C := RX12) (T := TX12) (N := 48) hx hb hts (fun _ h => List.mem_cons_of_mem _ (List.mem_append_right _ h)) hown hK hP 0 rfl rfl 47 (by decide) (hts (.fieldLink RX12 278 "LeftArgumentsModel" "hasImage" "Z") (List.mem_cons_of_mem _ (List.mem_append_left _ (List.mem_of_getElem? (i := 0) rfl)))) (fun _ h9 => h9) rfl dX12_back_1 ?_
  refine lv_if_ne (tgt := 9) hx hb dX12_back_4 (by decide) (fun c1 => ?_) (fun c1 => ?_)
  · skip
    have fc1 : ¬ (v19.toInt = 0) := fun h9 => c1 (Int32.toInt_inj.mp h9)
    refine lv_iconst (v := 0) hx hb dX12_back_9 (by decide) ?_
    refine lv_istore_n (lv' := [(1, .int 0), (0, .ref h0)]) hx hb dX12_back_10 rfl hl (by decide) rfl (fun ls hl => ?_)
    have hL26 : ∀ (n9 : Nat), ∀ (x22 : Int32) (fn23 : Nat → Int32) (H : Heap) (locs : List Loc) (ls : Array Slot), 0 ≤ x22.toInt → x22.toInt ≤ 247 → (pm_ANY fn23) → (fn23 = va_cpy f21 f20 0 0 x22.toInt.toNat) → (247 - x22.toInt).toNat < n9 → va_P (dC, dI) vwCl (wd_29945385 h0 v0 r0 v1 v2 v3 v4 r1 r2 r3 r4 r5 r6 r7 v5 v6 r8 r9 r10 r11 v7 r12 r13 v8 v9 h1 r14 v10 v11 r15 v12 v13 r16 v14 w15 r17 v16 v17 r18 r19 r20 r21 r22 r23 v18 r24 r25 h2 v19 h1 g0 fn23 h2 g1 f21) H → va_D A (wd_29945385 h0 v0 r0 v1 v2 v3 v4 r1 r2 r3 r4 r5 r6 r7 v5 v6 r8 r9 r10 r11 v7 r12 r13 v8 v9 h1 r14 v10 v11 r15 v12 v13 r16 v14 w15 r17 v16 v17 r18 r19 r20 r21 r22 r23 v18 r24 r25 h2 v19 h1 g0 fn23 h2 g1 f21) → va_S A s.heap H locs → lv_has ls 2 [(1, .int x22), (0, .ref h0)] → W p l e ({ frames := 0, cells := 0, slots := 0, locals := 0 }) s m ([.ref h0] : List Value).toArray below meth c H locs 0 0 Q (F0 m 11 ls []) := by
      intro n9
      induction n9 with
      | zero => intro x22 fn23 H locs ls qa_x22 qb_x22 ia_fn23 gh0_hL26 hm9 hP hD hS hl; exact absurd hm9 (Nat.not_lt_zero _)
      | succ n9 ih_hL26 =>
        intro x22 fn23 H locs ls qa_x22 qb_x22 ia_fn23 gh0_hL26 hm9 hP hD hS hl
        refine lv_iload_n hx hb dX12_back_11 rfl (lv_at hl 0 rfl) ?_
        refine lv_sipush (v := 247) hx hb dX12_back_12 (by decide) ?_
        refine lv_icmp_ge (tgt := 36) hx hb dX12_back_15 (by decide) (fun c27 => ?_) (fun c27 => ?_)
        · skip
          have fc27 : 247 ≤ x22.toInt := Int32.le_iff_toInt_le.mp c27
          refine lv_aload_n hx hb dX12_back_36 rfl (lv_at hl 1 rfl) ?_
          have ia_fn23 : pm_NW fn23 := by apply pm_NW.cp <;> first | assumption | omega
          refine lv_iconst (v := 0) hx hb dX12_back_37 (by decide) ?_
          refine va_put (D := (dC, dI)) (ci := 12) (v := .int 0) (ty := .int) (C := RX12) (T := TX12) (N := 48) hx hb hts (fun _ h => List.mem_cons_of_mem _ (List.mem_append_right _ h)) tyX12 tyX12_ok nmX12 hown hK hP hD hS 0 rfl rfl 32 (by decide) (hts (.fieldLink RX12 275 "LeftArgumentsModel" "acts" "I") (List.mem_cons_of_mem _ (List.mem_append_left _ (List.mem_of_getElem? (i := 1) rfl)))) (fun _ h9 => h9) rfl (by decide +kernel) rfl rfl (Nat.le_of_ble_eq_true rfl) dX12_back_38 (fun H locs hP hD hS => ?_)
          have hP : va_P (dC, dI) vwCl (wd_29945385 h0 v0 r0 v1 v2 v3 v4 r1 r2 r3 r4 r5 r6 r7 v5 v6 r8 r9 r10 r11 v7 r12 r13 v8 v9 h1 r14 v10 v11 r15 v12 v13 r16 0 w15 r17 v16 v17 r18 r19 r20 r21 r22 r23 v18 r24 r25 h2 v19 h1 g0 fn23 h2 g1 f21) H := hP
          have hD : va_D A (wd_29945385 h0 v0 r0 v1 v2 v3 v4 r1 r2 r3 r4 r5 r6 r7 v5 v6 r8 r9 r10 r11 v7 r12 r13 v8 v9 h1 r14 v10 v11 r15 v12 v13 r16 0 w15 r17 v16 v17 r18 r19 r20 r21 r22 r23 v18 r24 r25 h2 v19 h1 g0 fn23 h2 g1 f21) := hD
          refine lv_aload_n hx hb dX12_back_41 rfl (lv_at hl 1 rfl) ?_
          refine va_get (D := (dC, dI)) (ci := 12) (v := .ref h1) (C := RX12) (T := TX12) (N := 48) hx hb hts (fun _ h => List.mem_cons_of_mem _ (List.mem_append_right _ h)) hown hK hP 0 rfl rfl 24 (by decide) (hts (.fieldLink RX12 52 "LeftArgumentsModel" "now" "[I") (List.mem_cons_of_mem _ (List.mem_append_left _ (List.mem_of_getElem? (i := 2) rfl)))) (fun _ h9 => h9) rfl dX12_back_42 ?_
          refine lv_bipush (v := 65) hx hb dX12_back_45 (by decide) ?_
          refine va_iald hx hb hK hP 1 0 rfl rfl (pv_c (x := 65) (n := 247) (by decide)) dX12_back_47 ?_
          refine lv_topi (fun t28 et28 => ?_)
          have mmt28 : fn23 (Int32.toNatClampNeg 65) = t28 := et28.symm
          subst hQ
          have hP9 := hP.sub (ws' := (wd_29945385 h0 v0 r0 v1 v2 v3 v4 r1 r2 r3 r4 r5 r6 r7 v5 v6 r8 r9 r10 r11 v7 r12 r13 v8 v9 h1 r14 v10 v11 r15 v12 v13 r16 0 w15 r17 v16 v17 r18 r19 r20 r21 r22 r23 v18 r24 r25 h2 v19 h1 g0 fn23 h2 g1 f21)) [0, 1, 2] rfl
          have hD9 := hD.sub (ws' := (wd_29945385 h0 v0 r0 v1 v2 v3 v4 r1 r2 r3 r4 r5 r6 r7 v5 v6 r8 r9 r10 r11 v7 r12 r13 v8 v9 h1 r14 v10 v11 r15 v12 v13 r16 0 w15 r17 v16 v17 r18 r19 r20 r21 r22 r23 v18 r24 r25 h2 v19 h1 g0 fn23 h2 g1 f21)) [0, 1, 2] (by decide) rfl
          have hK9 := hK.sub (tys' := []) [] rfl
          exact W.iret (v := t28) hx hb hr (fun t ht hW => ⟨⟨t28, t28, rfl, rfl, ⟨0, fn23, by decide, by decide, ia_fn23, by rw [ht]; exact hP9, va_K.moved hW.alike hK9, hD9⟩⟩, hS.F ht⟩) hS.2.2 dX12_back_48
        · skip
          have fc27 : ¬ (247 ≤ x22.toInt) := fun h9 => c27 (Int32.le_iff_toInt_le.mpr h9)
          refine lv_aload_n hx hb dX12_back_18 rfl (lv_at hl 1 rfl) ?_
          refine va_get (D := (dC, dI)) (ci := 12) (v := .ref h1) (C := RX12) (T := TX12) (N := 48) hx hb hts (fun _ h => List.mem_cons_of_mem _ (List.mem_append_right _ h)) hown hK hP 0 rfl rfl 24 (by decide) (hts (.fieldLink RX12 52 "LeftArgumentsModel" "now" "[I") (List.mem_cons_of_mem _ (List.mem_append_left _ (List.mem_of_getElem? (i := 2) rfl)))) (fun _ h9 => h9) rfl dX12_back_19 ?_
          refine lv_iload_n hx hb dX12_back_22 rfl (lv_at hl 0 rfl) ?_
          refine lv_aload_n hx hb dX12_back_23 rfl (lv_at hl 1 rfl) ?_
          refine va_get (D := (dC, dI)) (ci := 12) (v := .ref h2) (C := RX12) (T := TX12) (N := 48) hx hb hts (fun _ h => List.mem_cons_of_mem _ (List.mem_append_right _ h)) hown hK hP 0 rfl rfl 46 (by decide) (hts (.fieldLink RX12 99 "LeftArgumentsModel" "image" "[I") (List.mem_cons_of_mem _ (List.mem_append_left _ (List.mem_of_getElem? (i := 3) rfl)))) (fun _ h9 => h9) rfl dX12_back_24 ?_
          refine lv_iload_n hx hb dX12_back_27 rfl (lv_at hl 0 rfl) ?_
          refine va_iald hx hb hK hP 2 1 rfl rfl (vp_in_iff.mpr ⟨by omega, by omega⟩) dX12_back_28 ?_
          refine lv_topi (fun t29 et29 => ?_)
          refine va_iast hx hb hK hP hD hS 1 0 rfl rfl (vp_in_iff.mpr ⟨by omega, by omega⟩) dX12_back_29 (fun H locs hP hD hS => ?_)
          obtain ⟨fn30, efn30⟩ : ∃ g : Nat → Int32, g = upd fn23 (Int32.toNatClampNeg x22) t29 := ⟨_, rfl⟩
          rw [← efn30] at hP hD
          have ia_fn30 : pm_ANY fn30 := trivial
          have hP : va_P (dC, dI) vwCl (wd_29945385 h0 v0 r0 v1 v2 v3 v4 r1 r2 r3 r4 r5 r6 r7 v5 v6 r8 r9 r10 r11 v7 r12 r13 v8 v9 h1 r14 v10 v11 r15 v12 v13 r16 v14 w15 r17 v16 v17 r18 r19 r20 r21 r22 r23 v18 r24 r25 h2 v19 h1 g0 fn30 h2 g1 f21) H := hP
          have hD : va_D A (wd_29945385 h0 v0 r0 v1 v2 v3 v4 r1 r2 r3 r4 r5 r6 r7 v5 v6 r8 r9 r10 r11 v7 r12 r13 v8 v9 h1 r14 v10 v11 r15 v12 v13 r16 v14 w15 r17 v16 v17 r18 r19 r20 r21 r22 r23 v18 r24 r25 h2 v19 h1 g0 fn30 h2 g1 f21) := hD
          obtain ⟨t31, et31⟩ : ∃ y : Int32, y = x22 + 1 := ⟨_, rfl⟩
          have gt31 : t31.toInt = x22.toInt + (1) := pv_add (a := x22.toInt) (b := (1)) et31 rfl (by decide) (by omega) (by omega)
          refine lv_iinc (v := t31) (lv' := [(1, .int t31), (0, .ref h0)]) hx hb dX12_back_30 hl (k := 0) rfl (by rw [et31]; rfl) (by decide) rfl (fun ls hl => ?_)
          refine lv_goto (tgt := 11) hx hb dX12_back_33 (by decide) ?_
          exact ih_hL26 t31 fn30 H locs ls (by first | omega | decide) (by first | omega | decide) ia_fn30 (by first | exact pm_cp.zero (by decide) | (apply pm_cp.step <;> first | assumption | omega)) (by first | omega | (simp only [Int.toNat] at *; omega)) hP hD hS (lv_sub hl [0, 1] rfl)
    exact hL26 _ 0 f20 H locs ls (by decide) (by decide) trivial (by first | exact pm_cp.zero (by decide) | (apply pm_cp.step <;> first | assumption | omega)) (Nat.lt_succ_self _) hP hD hS (lv_sub hl [0, 1] rfl)
  · skip
    have fc1 : v19.toInt = 0 := congrArg Int32.toInt c1
    refine lv_iconst (v := (-1)) hx hb dX12_back_7 (by decide) ?_
    subst hQ
    have hP9 := hP.sub (ws' := (wd_29945385 h0 v0 r0 v1 v2 v3 v4 r1 r2 r3 r4 r5 r6 r7 v5 v6 r8 r9 r10 r11 v7 r12 r13 v8 v9 h1 r14 v10 v11 r15 v12 v13 r16 v14 w15 r17 v16 v17 r18 r19 r20 r21 r22 r23 v18 r24 r25 h2 v19 h1 g0 f20 h2 g1 f21)) [0, 1, 2] rfl
    have hD9 := hD.sub (ws' := (wd_29945385 h0 v0 r0 v1 v2 v3 v4 r1 r2 r3 r4 r5 r6 r7 v5 v6 r8 r9 r10 r11 v7 r12 r13 v8 v9 h1 r14 v10 v11 r15 v12 v13 r16 v14 w15 r17 v16 v17 r18 r19 r20 r21 r22 r23 v18 r24 r25 h2 v19 h1 g0 f20 h2 g1 f21)) [0, 1, 2] (by decide) rfl
    have hK9 := hK.sub (tys' := []) [] rfl
    exact W.iret (v := (-1)) hx hb hr (fun t ht hW => ⟨⟨(-1), (-1), rfl, rfl, ⟨v14, f20, i_v14a, i_v14b, ia_f20, by rw [ht]; exact hP9, va_K.moved hW.alike hK9, hD9⟩⟩, hS.F ht⟩) hS.2.2 dX12_back_8
def q_X12_setsOff : List Cond := .code yX12_setsOff cX12_setsOff 3 (some .boolean) :: (([.code yX12_of cX12_of 3 (some .int), .fieldLink RX12 52 "LeftArgumentsModel" "now" "[I", .initialized RX12, .instanceMethod yX12_of, .selects RX12 yX12_of yX12_of, .methodLink RX12 287 yX12_of, .methodLink RX12 411 Lib.Math.abs.name, .static Lib.Math.abs.name, .initialized "java/lang/Math", .code Lib.Math.abs.name Lib.Math.abs.code 1 (some .int), .code yX12_stubbornOf cX12_stubbornOf 2 (some .int), .instanceMethod yX12_stubbornOf, .selects RX12 yX12_stubbornOf yX12_stubbornOf, .methodLink RX12 414 yX12_stubbornOf] : List Cond) ++ wsX120)
set_option maxRecDepth 20000 in
theorem g_X12_setsOff_0 : GoodIn q_X12_setsOff (wsV RX12 287 RX12 yX12_of q_X12_of_3) := goodIn_app (goodIn_r _ [6, 4, 5, 3] rfl (by decide +kernel)) (goodIn_ca (goodIn_r (.code yX12_of cX12_of 3 (some .int) :: [.fieldLink RX12 52 "LeftArgumentsModel" "now" "[I"]) [1, 2] rfl (by decide +kernel)) (goodIn_sub (fun _ h => List.mem_cons_of_mem _ (List.mem_append_right _ h)) gwX12))
set_option maxRecDepth 20000 in
theorem g_X12_setsOff_2 : GoodIn q_X12_setsOff (wsV RX12 414 RX12 yX12_stubbornOf q_X12_stubbornOf) := goodIn_app (goodIn_r _ [14, 12, 13, 3] rfl (by decide +kernel)) (goodIn_ca (goodIn_r (.code yX12_stubbornOf cX12_stubbornOf 2 (some .int) :: [.code yX12_of cX12_of 3 (some .int), .fieldLink RX12 52 "LeftArgumentsModel" "now" "[I", .initialized RX12, .instanceMethod yX12_of, .selects RX12 yX12_of yX12_of, .methodLink RX12 287 yX12_of]) [11, 1, 2, 3, 4, 5, 6] rfl (by decide +kernel)) (goodIn_sub (fun _ h => List.mem_cons_of_mem _ (List.mem_append_right _ h)) gwX12))
set_option maxHeartbeats 4000000 in
set_option maxRecDepth 100000 in
theorem k_X12_setsOff (l : Launch) (dC : Nat → ClassId) (dI : Nat → Nat → Nat) (h0 : Nat) (h1 : Nat) (v0 : Int32) (r0 : Nat) (v1 : Int32) (v2 : Int32) (v3 : Int32) (v4 : Int32) (r1 : Nat) (r2 : Nat) (r3 : Nat) (r4 : Nat) (r5 : Nat) (r6 : Nat) (r7 : Nat) (v5 : Int32) (v6 : Int32) (r8 : Nat) (r9 : Nat) (r10 : Nat) (r11 : Nat) (v7 : Int32) (r12 : Nat) (r13 : Nat) (v8 : Int32) (v9 : Int32) (r14 : Nat) (v10 : Int32) (v11 : Int32) (r15 : Nat) (v12 : Int32) (v13 : Int32) (r16 : Nat) (v14 : Int32) (w15 : Int64) (r17 : Nat) (v16 : Int32) (v17 : Int32) (r18 : Nat) (r19 : Nat) (r20 : Nat) (r21 : Nat) (r22 : Nat) (r23 : Nat) (v18 : Int32) (r24 : Nat) (r25 : Nat) (r26 : Nat) (v19 : Int32) (g0 : ClassId) (f20 : Nat → Int32) (v21 : Int32) (v22 : Int32) (i_v1 : 0 ≤ v1.toInt ∧ v1.toInt ≤ 240) (i_v5 : 0 ≤ v5.toInt ∧ v5.toInt ≤ 4) (i_v6 : 0 ≤ v6.toInt ∧ v6.toInt ≤ 4) (i_v7 : 0 ≤ v7.toInt ∧ v7.toInt ≤ 8) (i_v8 : 0 ≤ v8.toInt ∧ v8.toInt ≤ 8) (i_v9 : 0 ≤ v9.toInt ∧ v9.toInt ≤ 1) (i_v10 : -1 ≤ v10.toInt ∧ v10.toInt ≤ 3) (i_v14 : 0 ≤ v14.toInt ∧ v14.toInt ≤ 40) (i_v18 : 0 ≤ v18.toInt ∧ v18.toInt ≤ 10) (i_v19 : 0 ≤ v19.toInt ∧ v19.toInt ≤ 1) (i_v21 : 0 ≤ v21.toInt ∧ v21.toInt ≤ 7) (i_v22 : 0 ≤ v22.toInt ∧ v22.toInt ≤ 7) (ia_f20 : (pm_NW f20)) (sz : Nat) : Met l yX12_setsOff q_X12_setsOff ({ frames := 2, cells := 0, slots := 0, locals := 43 }) (va_Pc [.ref h0, .int v21, .int v22] (fun U => U.heap.size = sz ∧ va_P (dC, dI) vwCl (wd_5013416a h0 v0 r0 v1 v2 v3 v4 r1 r2 r3 r4 r5 r6 r7 v5 v6 r8 r9 r10 r11 v7 r12 r13 v8 v9 h1 r14 v10 v11 r15 v12 v13 r16 v14 w15 r17 v16 v17 r18 r19 r20 r21 r22 r23 v18 r24 r25 r26 v19 h1 g0 f20) U.heap ∧ va_K (dC, dI) vwCl [(g0, .int)] U ∧ va_D (fun _ => True) (wd_5013416a h0 v0 r0 v1 v2 v3 v4 r1 r2 r3 r4 r5 r6 r7 v5 v6 r8 r9 r10 r11 v7 r12 r13 v8 v9 h1 r14 v10 v11 r15 v12 v13 r16 v14 w15 r17 v16 v17 r18 r19 r20 r21 r22 r23 v18 r24 r25 r26 v19 h1 g0 f20))) (va_Qi (fun (r : Int32) (r9 : Int32) => r9 = r) (fun (r : Int32) (t : State) => ((0 ≤ r.toInt) ∧ (r.toInt ≤ 1) ∧ va_P (dC, dI) vwCl (wd_5013416a h0 v0 r0 v1 v2 v3 v4 r1 r2 r3 r4 r5 r6 r7 v5 v6 r8 r9 r10 r11 v7 r12 r13 v8 v9 h1 r14 v10 v11 r15 v12 v13 r16 v14 w15 r17 v16 v17 r18 r19 r20 r21 r22 r23 v18 r24 r25 r26 v19 h1 g0 f20) t.heap ∧ va_K (dC, dI) vwCl [] t ∧ va_D (va_A (wd_5013416a h0 v0 r0 v1 v2 v3 v4 r1 r2 r3 r4 r5 r6 r7 v5 v6 r8 r9 r10 r11 v7 r12 r13 v8 v9 h1 r14 v10 v11 r15 v12 v13 r16 v14 w15 r17 v16 v17 r18 r19 r20 r21 r22 r23 v18 r24 r25 r26 v19 h1 g0 f20) sz) (wd_5013416a h0 v0 r0 v1 v2 v3 v4 r1 r2 r3 r4 r5 r6 r7 v5 v6 r8 r9 r10 r11 v7 r12 r13 v8 v9 h1 r14 v10 v11 r15 v12 v13 r16 v14 w15 r17 v16 v17 r18 r19 r20 r21 r22 r23 v18 r24 r25 r26 v19 h1 g0 f20))) (va_A (wd_5013416a h0 v0 r0 v1 v2 v3 v4 r1 r2 r3 r4 r5 r6 r7 v5 v6 r8 r9 r10 r11 v7 r12 r13 v8 v9 h1 r14 v10 v11 r15 v12 v13 r16 v14 w15 r17 v16 v17 r18 r19 r20 r21 r22 r23 v18 r24 r25 r26 v19 h1 g0 f20) sz)) 0 0 (va_A (wd_5013416a h0 v0 r0 v1 v2 v3 v4 r1 r2 r3 r4 r5 r6 r7 v5 v6 r8 r9 r10 r11 v7 r12 r13 v8 v9 h1 r14 v10 v11 r15 v12 v13 r16 v14 w15 r17 v16 v17 r18 r19 r20 r21 r22 r23 v18 r24 r25 r26 v19 h1 g0 f20) sz) := by
  refine Met.ofW (cc := cX12_setsOff) (maxL := 3) (ret := (some .boolean)) (by decide) rfl ?_
  intro p e s m args below meth c s₁ B hml hv
  obtain ⟨i_v1a, i_v1b⟩ := i_v1
  obtain ⟨i_v5a, i_v5b⟩ := i_v5
  obtain ⟨i_v6a, i_v6b⟩ := i_v6
  obtain ⟨i_v7a, i_v7b⟩ := i_v7
  obtain ⟨i_v8a, i_v8b⟩ := i_v8
  obtain ⟨i_v9a, i_v9b⟩ := i_v9
  obtain ⟨i_v10a, i_v10b⟩ := i_v10
  obtain ⟨i_v14a, i_v14b⟩ := i_v14
  obtain ⟨i_v18a, i_v18b⟩ := i_v18
  obtain ⟨i_v19a, i_v19b⟩ := i_v19
  obtain ⟨i_v21a, i_v21b⟩ := i_v21
  obtain ⟨i_v22a, i_v22b⟩ := i_v22
  obtain ⟨rfl, hsz, hP, hK, hD0⟩ := hv
  have hx := B.exec
  have hb := B.bytes
  have hr := B.returns
  have hts := atoms_spec (ws := q_X12_setsOff) B.pre
  have hown : s.vm.findClass RX12 = some m.cls := findClass_of_methodNamed B.named
  have hlocks := B.notSynchronized
  subst hsz
  have hD := hD0.self (sz := s.heap.size)
  generalize hAe : va_A (wd_5013416a h0 v0 r0 v1 v2 v3 v4 r1 r2 r3 r4 r5 r6 r7 v5 v6 r8 r9 r10 r11 v7 r12 r13 v8 v9 h1 r14 v10 v11 r15 v12 v13 r16 v14 w15 r17 v16 v17 r18 r19 r20 r21 r22 r23 v18 r24 r25 r26 v19 h1 g0 f20) s.heap.size = A at hD ⊢
  have hA : ∀ q : Nat, s.heap.size ≤ q → A q := fun q h => by rw [← hAe]; exact Or.inr h
  have hS : va_S A s.heap s.heap [] := va_S.rf
  generalize hQ : (MQ below _ _ s 0 0 A) = Q
  have hl := lv_entry ([.ref h0, .int v21, .int v22]) (n := 3) (Nat.le_of_ble_eq_true rfl)
  rw [lg_entry_eq]
  generalize (lg_sl ([.ref h0, .int v21, .int v22]) ++ List.replicate (3 - (lg_sl ([.ref h0, .int v21, .int v22])).length) Slot.unset).toArray = ls at hl ⊢
  have hl : lv_has ls 3 [(0, .ref h0), (1, .int v21), (2, .int v22)] := hl
  obtain ⟨H, hH⟩ : ∃ H : Heap, H = s.heap := ⟨_, rfl⟩
  obtain ⟨locs, hlocs⟩ : ∃ y : List Loc, y = [] := ⟨_, rfl⟩
  have hS : va_S A s.heap H locs := by rw [hH, hlocs]; exact va_S.rf
  have hP : va_P (dC, dI) vwCl (wd_5013416a h0 v0 r0 v1 v2 v3 v4 r1 r2 r3 r4 r5 r6 r7 v5 v6 r8 r9 r10 r11 v7 r12 r13 v8 v9 h1 r14 v10 v11 r15 v12 v13 r16 v14 w15 r17 v16 v17 r18 r19 r20 r21 r22 r23 v18 r24 r25 r26 v19 h1 g0 f20) H := by rw [hH]; exact hP
  rw [← hH, ← hlocs]
  refine lv_aload_n hx hb dX12_setsOff_0 rfl (lv_at hl 0 rfl) ?_
  refine lv_iload_n hx hb dX12_setsOff_1 rfl (lv_at hl 1 rfl) ?_
  refine lv_iconst (v := 0) hx hb dX12_setsOff_2 (by decide) ?_
  have hPc := hP.sub (ws' := (wd_5013416a h0 v0 r0 v1 v2 v3 v4 r1 r2 r3 r4 r5 r6 r7 v5 v6 r8 r9 r10 r11 v7 r12 r13 v8 v9 h1 r14 v10 v11 r15 v12 v13 r16 v14 w15 r17 v16 v17 r18 r19 r20 r21 r22 r23 v18 r24 r25 r26 v19 h1 g0 f20)) [0, 1] rfl
  have hDc := hD.sub (ws' := (wd_5013416a h0 v0 r0 v1 v2 v3 v4 r1 r2 r3 r4 r5 r6 r7 v5 v6 r8 r9 r10 r11 v7 r12 r13 v8 v9 h1 r14 v10 v11 r15 v12 v13 r16 v14 w15 r17 v16 v17 r18 r19 r20 r21 r22 r23 v18 r24 r25 r26 v19 h1 g0 f20)) [0, 1] (by decide) rfl
  have hKc := hK.sub (tys' := [(g0, .int)]) [0] rfl
  have hFc := va_free (wc := (wd_5013416a h0 v0 r0 v1 v2 v3 v4 r1 r2 r3 r4 r5 r6 r7 v5 v6 r8 r9 r10 r11 v7 r12 r13 v8 v9 h1 r14 v10 v11 r15 v12 v13 r16 v14 w15 r17 v16 v17 r18 r19 r20 r21 r22 r23 v18 r24 r25 r26 v19 h1 g0 f20)) hD hS hA [0, 1] rfl
  refine va_calli (va_runV (As := [.int v21, .int 0]) (rest := []) ⟨hx, hb, hml, hown, hts⟩ (k_X12_of_3 l dC dI h0 h1 v0 r0 v1 v2 v3 v4 r1 r2 r3 r4 r5 r6 r7 v5 v6 r8 r9 r10 r11 v7 r12 r13 v8 v9 r14 v10 v11 r15 v12 v13 r16 v14 w15 r17 v16 v17 r18 r19 r20 r21 r22 r23 v18 r24 r25 r26 v19 g0 f20 v21 ⟨i_v1a, i_v1b⟩ ⟨i_v5a, i_v5b⟩ ⟨i_v6a, i_v6b⟩ ⟨i_v7a, i_v7b⟩ ⟨i_v8a, i_v8b⟩ ⟨i_v9a, i_v9b⟩ ⟨i_v10a, i_v10b⟩ ⟨i_v14a, i_v14b⟩ ⟨i_v18a, i_v18b⟩ ⟨i_v19a, i_v19b⟩ ⟨i_v21a, i_v21b⟩ ia_f20.1 H.size) (cwV 2 hts g_X12_setsOff_0 rfl rfl rfl (by decide +kernel) ⟨Nat.le_of_ble_eq_true rfl, Nat.le_of_ble_eq_true rfl⟩) (pv_PV12 hPc hKc hDc (q0 := 0) rfl) rfl rfl hl.1 rfl (lv_room (Nat.le_of_ble_eq_true rfl)) dX12_setsOff_3 ⟨Nat.le_of_ble_eq_true rfl, Nat.le_of_ble_eq_true rfl⟩) hS (fun q _ h => hFc q h) hFc (fun ra1 u t H1 locs ht hvm hwra1 hB hz1 hk1 hS => ?_)
  try rw [hwra1] at hB
  obtain ⟨pt0_ra1, pt1_ra1, pt2_ra1, hP1, hK1, hD1⟩ := hB
  rw [ht] at hP1
  obtain ⟨hP2, hD2⟩ := va_join (wr := []) (w1 := (wd_5013416a h0 v0 r0 v1 v2 v3 v4 r1 r2 r3 r4 r5 r6 r7 v5 v6 r8 r9 r10 r11 v7 r12 r13 v8 v9 h1 r14 v10 v11 r15 v12 v13 r16 v14 w15 r17 v16 v17 r18 r19 r20 r21 r22 r23 v18 r24 r25 r26 v19 h1 g0 f20)) hP hD [0, 1] [] rfl rfl (by decide) (by decide) hk1 hFc hP1 hD1
  clear hP hD hPc hDc hKc hFc hP1 hK1 hD1 hk1 hz1
  generalize H1 = H at hP2 hS ⊢
  have hP : va_P (dC, dI) vwCl (wd_5013416a h0 v0 r0 v1 v2 v3 v4 r1 r2 r3 r4 r5 r6 r7 v5 v6 r8 r9 r10 r11 v7 r12 r13 v8 v9 h1 r14 v10 v11 r15 v12 v13 r16 v14 w15 r17 v16 v17 r18 r19 r20 r21 r22 r23 v18 r24 r25 r26 v19 h1 g0 f20) H := hP2
  have hD : va_D A (wd_5013416a h0 v0 r0 v1 v2 v3 v4 r1 r2 r3 r4 r5 r6 r7 v5 v6 r8 r9 r10 r11 v7 r12 r13 v8 v9 h1 r14 v10 v11 r15 v12 v13 r16 v14 w15 r17 v16 v17 r18 r19 r20 r21 r22 r23 v18 r24 r25 r26 v19 h1 g0 f20) := hD2
  clear hP2 hD2
  refine lv_aload_n hx hb dX12_setsOff_6 rfl (lv_at hl 0 rfl) ?_
  refine lv_iload_n hx hb dX12_setsOff_7 rfl (lv_at hl 2 rfl) ?_
  refine lv_iconst (v := 0) hx hb dX12_setsOff_8 (by decide) ?_
  have hPc := hP.sub (ws' := (wd_5013416a h0 v0 r0 v1 v2 v3 v4 r1 r2 r3 r4 r5 r6 r7 v5 v6 r8 r9 r10 r11 v7 r12 r13 v8 v9 h1 r14 v10 v11 r15 v12 v13 r16 v14 w15 r17 v16 v17 r18 r19 r20 r21 r22 r23 v18 r24 r25 r26 v19 h1 g0 f20)) [0, 1] rfl
  have hDc := hD.sub (ws' := (wd_5013416a h0 v0 r0 v1 v2 v3 v4 r1 r2 r3 r4 r5 r6 r7 v5 v6 r8 r9 r10 r11 v7 r12 r13 v8 v9 h1 r14 v10 v11 r15 v12 v13 r16 v14 w15 r17 v16 v17 r18 r19 r20 r21 r22 r23 v18 r24 r25 r26 v19 h1 g0 f20)) [0, 1] (by decide) rfl
  have hKc := hK.sub (tys' := [(g0, .int)]) [0] rfl
  have hFc := va_free (wc := (wd_5013416a h0 v0 r0 v1 v2 v3 v4 r1 r2 r3 r4 r5 r6 r7 v5 v6 r8 r9 r10 r11 v7 r12 r13 v8 v9 h1 r14 v10 v11 r15 v12 v13 r16 v14 w15 r17 v16 v17 r18 r19 r20 r21 r22 r23 v18 r24 r25 r26 v19 h1 g0 f20)) hD hS hA [0, 1] rfl
  refine va_calli (va_runV (As := [.int v22, .int 0]) (rest := [.int ra1]) ⟨hx, hb, hml, hown, hts⟩ (k_X12_of_3 l dC dI h0 h1 v0 r0 v1 v2 v3 v4 r1 r2 r3 r4 r5 r6 r7 v5 v6 r8 r9 r10 r11 v7 r12 r13 v8 v9 r14 v10 v11 r15 v12 v13 r16 v14 w15 r17 v16 v17 r18 r19 r20 r21 r22 r23 v18 r24 r25 r26 v19 g0 f20 v22 ⟨i_v1a, i_v1b⟩ ⟨i_v5a, i_v5b⟩ ⟨i_v6a, i_v6b⟩ ⟨i_v7a, i_v7b⟩ ⟨i_v8a, i_v8b⟩ ⟨i_v9a, i_v9b⟩ ⟨i_v10a, i_v10b⟩ ⟨i_v14a, i_v14b⟩ ⟨i_v18a, i_v18b⟩ ⟨i_v19a, i_v19b⟩ ⟨i_v22a, i_v22b⟩ ia_f20.1 H.size) (cwV 2 hts g_X12_setsOff_0 rfl rfl rfl (by decide +kernel) ⟨Nat.le_of_ble_eq_true rfl, Nat.le_of_ble_eq_true rfl⟩) (pv_PV12 hPc hKc hDc (q0 := 0) rfl) rfl rfl hl.1 rfl (lv_room (Nat.le_of_ble_eq_true rfl)) dX12_setsOff_9 ⟨Nat.le_of_ble_eq_true rfl, Nat.le_of_ble_eq_true rfl⟩) hS (fun q _ h => hFc q h) hFc (fun ra2 u t H1 locs ht hvm hwra2 hB hz1 hk1 hS => ?_)
  try rw [hwra2] at hB
  obtain ⟨pt0_ra2, pt1_ra2, pt2_ra2, hP1, hK1, hD1⟩ := hB
  rw [ht] at hP1
  obtain ⟨hP2, hD2⟩ := va_join (wr := []) (w1 := (wd_5013416a h0 v0 r0 v1 v2 v3 v4 r1 r2 r3 r4 r5 r6 r7 v5 v6 r8 r9 r10 r11 v7 r12 r13 v8 v9 h1 r14 v10 v11 r15 v12 v13 r16 v14 w15 r17 v16 v17 r18 r19 r20 r21 r22 r23 v18 r24 r25 r26 v19 h1 g0 f20)) hP hD [0, 1] [] rfl rfl (by decide) (by decide) hk1 hFc hP1 hD1
  clear hP hD hPc hDc hKc hFc hP1 hK1 hD1 hk1 hz1
  generalize H1 = H at hP2 hS ⊢
  have hP : va_P (dC, dI) vwCl (wd_5013416a h0 v0 r0 v1 v2 v3 v4 r1 r2 r3 r4 r5 r6 r7 v5 v6 r8 r9 r10 r11 v7 r12 r13 v8 v9 h1 r14 v10 v11 r15 v12 v13 r16 v14 w15 r17 v16 v17 r18 r19 r20 r21 r22 r23 v18 r24 r25 r26 v19 h1 g0 f20) H := hP2
  have hD : va_D A (wd_5013416a h0 v0 r0 v1 v2 v3 v4 r1 r2 r3 r4 r5 r6 r7 v5 v6 r8 r9 r10 r11 v7 r12 r13 v8 v9 h1 r14 v10 v11 r15 v12 v13 r16 v14 w15 r17 v16 v17 r18 r19 r20 r21 r22 r23 v18 r24 r25 r26 v19 h1 g0 f20) := hD2
  clear hP2 hD2
  refine lv_isub hx hb dX12_setsOff_12 ?_
  refine lv_topi (fun t3 et3 => ?_)
  have gt3 : t3.toInt = ra1.toInt - ra2.toInt := pv_sub (a := ra1.toInt) (b := ra2.toInt) et3 rfl rfl (by omega) (by omega)
  refine va_mabs hx hb (by rw [hml]; exact hl.1.symm) hown (hts (.methodLink RX12 411 Lib.Math.abs.name) (List.mem_cons_of_mem _ (List.mem_append_left _ (List.mem_of_getElem? (i := 6) rfl)))) (hts (.static Lib.Math.abs.name) (List.mem_cons_of_mem _ (List.mem_append_left _ (List.mem_of_getElem? (i := 7) rfl)))) (hts (.initialized "java/lang/Math") (List.mem_cons_of_mem _ (List.mem_append_left _ (List.mem_of_getElem? (i := 8) rfl)))) (hts (.code Lib.Math.abs.name Lib.Math.abs.code 1 (some .int)) (List.mem_cons_of_mem _ (List.mem_append_left _ (List.mem_of_getElem? (i := 9) rfl)))) (Nat.le_of_ble_eq_true rfl) (Nat.le_of_ble_eq_true rfl) (Nat.le_of_ble_eq_true rfl) (Nat.le_of_ble_eq_true rfl) dX12_setsOff_13 ?_
  refine lv_topi (fun t4 et4 => ?_)
  refine lv_iconst (v := 2) hx hb dX12_setsOff_16 (by decide) ?_
  have hJ6 : ∀ (x5 : Int32) (H : Heap) (locs : List Loc) (ls : Array Slot), 0 ≤ x5.toInt → x5.toInt ≤ 1 → va_P (dC, dI) vwCl (wd_5013416a h0 v0 r0 v1 v2 v3 v4 r1 r2 r3 r4 r5 r6 r7 v5 v6 r8 r9 r10 r11 v7 r12 r13 v8 v9 h1 r14 v10 v11 r15 v12 v13 r16 v14 w15 r17 v16 v17 r18 r19 r20 r21 r22 r23 v18 r24 r25 r26 v19 h1 g0 f20) H → va_D A (wd_5013416a h0 v0 r0 v1 v2 v3 v4 r1 r2 r3 r4 r5 r6 r7 v5 v6 r8 r9 r10 r11 v7 r12 r13 v8 v9 h1 r14 v10 v11 r15 v12 v13 r16 v14 w15 r17 v16 v17 r18 r19 r20 r21 r22 r23 v18 r24 r25 r26 v19 h1 g0 f20) → va_S A s.heap H locs → lv_has ls 3 [(0, .ref h0), (1, .int v21), (2, .int v22)] → W p l e ({ frames := 2, cells := 0, slots := 0, locals := 43 }) s m ([.ref h0, .int v21, .int v22] : List Value).toArray below meth c H locs 0 0 Q (F0 m 38 ls [.int x5]) := by
    intro x5 H locs ls qa_x5 qb_x5 hP hD hS hl
    subst hQ
    have hP9 := hP.sub (ws' := (wd_5013416a h0 v0 r0 v1 v2 v3 v4 r1 r2 r3 r4 r5 r6 r7 v5 v6 r8 r9 r10 r11 v7 r12 r13 v8 v9 h1 r14 v10 v11 r15 v12 v13 r16 v14 w15 r17 v16 v17 r18 r19 r20 r21 r22 r23 v18 r24 r25 r26 v19 h1 g0 f20)) [0, 1] rfl
    have hD9 := hD.sub (ws' := (wd_5013416a h0 v0 r0 v1 v2 v3 v4 r1 r2 r3 r4 r5 r6 r7 v5 v6 r8 r9 r10 r11 v7 r12 r13 v8 v9 h1 r14 v10 v11 r15 v12 v13 r16 v14 w15 r17 v16 v17 r18 r19 r20 r21 r22 r23 v18 r24 r25 r26 v19 h1 g0 f20)) [0, 1] (by decide) rfl
    have hK9 := hK.sub (tys' := []) [] rfl
    exact W.zret (v := x5) hx hb hr (pv_nz (by omega) (by omega)) (fun t ht hW => ⟨⟨x5, x5, rfl, rfl, ⟨by first | omega | decide, by first | omega | decide, by rw [ht]; exact hP9, va_K.moved hW.alike hK9, hD9⟩⟩, hS.F ht⟩) hS.2.2 dX12_setsOff_38
  refine lv_icmp_le (tgt := 33) hx hb dX12_setsOff_17 (by decide) (fun c7 => ?_) (fun c7 => ?_)
  · skip
    have fc7 : t4.toInt ≤ 2 := Int32.le_iff_toInt_le.mp c7
    refine lv_iconst (v := 1) hx hb dX12_setsOff_33 (by decide) ?_
    refine lv_goto (tgt := 38) hx hb dX12_setsOff_34 (by decide) ?_
    exact hJ6 1 H locs ls (by decide) (by decide) hP hD hS (lv_sub hl [0, 1, 2] rfl)
  · skip
    have fc7 : ¬ (t4.toInt ≤ 2) := fun h9 => c7 (Int32.le_iff_toInt_le.mpr h9)
    refine lv_aload_n hx hb dX12_setsOff_20 rfl (lv_at hl 0 rfl) ?_
    refine lv_iload_n hx hb dX12_setsOff_21 rfl (lv_at hl 1 rfl) ?_
    have hPc := hP.sub (ws' := (wd_5013416a h0 v0 r0 v1 v2 v3 v4 r1 r2 r3 r4 r5 r6 r7 v5 v6 r8 r9 r10 r11 v7 r12 r13 v8 v9 h1 r14 v10 v11 r15 v12 v13 r16 v14 w15 r17 v16 v17 r18 r19 r20 r21 r22 r23 v18 r24 r25 r26 v19 h1 g0 f20)) [0, 1] rfl
    have hDc := hD.sub (ws' := (wd_5013416a h0 v0 r0 v1 v2 v3 v4 r1 r2 r3 r4 r5 r6 r7 v5 v6 r8 r9 r10 r11 v7 r12 r13 v8 v9 h1 r14 v10 v11 r15 v12 v13 r16 v14 w15 r17 v16 v17 r18 r19 r20 r21 r22 r23 v18 r24 r25 r26 v19 h1 g0 f20)) [0, 1] (by decide) rfl
    have hKc := hK.sub (tys' := [(g0, .int)]) [0] rfl
    have hFc := va_free (wc := (wd_5013416a h0 v0 r0 v1 v2 v3 v4 r1 r2 r3 r4 r5 r6 r7 v5 v6 r8 r9 r10 r11 v7 r12 r13 v8 v9 h1 r14 v10 v11 r15 v12 v13 r16 v14 w15 r17 v16 v17 r18 r19 r20 r21 r22 r23 v18 r24 r25 r26 v19 h1 g0 f20)) hD hS hA [0, 1] rfl
    refine va_calli (va_runV (As := [.int v21]) (rest := []) ⟨hx, hb, hml, hown, hts⟩ (k_X12_stubbornOf l dC dI h0 h1 v0 r0 v1 v2 v3 v4 r1 r2 r3 r4 r5 r6 r7 v5 v6 r8 r9 r10 r11 v7 r12 r13 v8 v9 r14 v10 v11 r15 v12 v13 r16 v14 w15 r17 v16 v17 r18 r19 r20 r21 r22 r23 v18 r24 r25 r26 v19 g0 f20 v21 ⟨i_v1a, i_v1b⟩ ⟨i_v5a, i_v5b⟩ ⟨i_v6a, i_v6b⟩ ⟨i_v7a, i_v7b⟩ ⟨i_v8a, i_v8b⟩ ⟨i_v9a, i_v9b⟩ ⟨i_v10a, i_v10b⟩ ⟨i_v14a, i_v14b⟩ ⟨i_v18a, i_v18b⟩ ⟨i_v19a, i_v19b⟩ ⟨i_v21a, i_v21b⟩ ia_f20 H.size) (cwV 1 hts g_X12_setsOff_2 rfl rfl rfl (by decide +kernel) ⟨Nat.le_of_ble_eq_true rfl, Nat.le_of_ble_eq_true rfl⟩) (pv_PV12 hPc hKc hDc (q0 := 0) rfl) rfl rfl hl.1 rfl (lv_room (Nat.le_of_ble_eq_true rfl)) dX12_setsOff_22 ⟨Nat.le_of_ble_eq_true rfl, Nat.le_of_ble_eq_true rfl⟩) hS (fun q _ h => hFc q h) hFc (fun ra8 u t H1 locs ht hvm hwra8 hB hz1 hk1 hS => ?_)
    try rw [hwra8] at hB
    obtain ⟨hP1, hK1, hD1⟩ := hB
    rw [ht] at hP1
    obtain ⟨hP2, hD2⟩ := va_join (wr := []) (w1 := (wd_5013416a h0 v0 r0 v1 v2 v3 v4 r1 r2 r3 r4 r5 r6 r7 v5 v6 r8 r9 r10 r11 v7 r12 r13 v8 v9 h1 r14 v10 v11 r15 v12 v13 r16 v14 w15 r17 v16 v17 r18 r19 r20 r21 r22 r23 v18 r24 r25 r26 v19 h1 g0 f20)) hP hD [0, 1] [] rfl rfl (by decide) (by decide) hk1 hFc hP1 hD1
    clear hP hD hPc hDc hKc hFc hP1 hK1 hD1 hk1 hz1
    generalize H1 = H at hP2 hS ⊢
    have hP : va_P (dC, dI) vwCl (wd_5013416a h0 v0 r0 v1 v2 v3 v4 r1 r2 r3 r4 r5 r6 r7 v5 v6 r8 r9 r10 r11 v7 r12 r13 v8 v9 h1 r14 v10 v11 r15 v12 v13 r16 v14 w15 r17 v16 v17 r18 r19 r20 r21 r22 r23 v18 r24 r25 r26 v19 h1 g0 f20) H := hP2
    have hD : va_D A (wd_5013416a h0 v0 r0 v1 v2 v3 v4 r1 r2 r3 r4 r5 r6 r7 v5 v6 r8 r9 r10 r11 v7 r12 r13 v8 v9 h1 r14 v10 v11 r15 v12 v13 r16 v14 w15 r17 v16 v17 r18 r19 r20 r21 r22 r23 v18 r24 r25 r26 v19 h1 g0 f20) := hD2
    clear hP2 hD2
    refine lv_aload_n hx hb dX12_setsOff_25 rfl (lv_at hl 0 rfl) ?_
    refine lv_iload_n hx hb dX12_setsOff_26 rfl (lv_at hl 2 rfl) ?_
    have hPc := hP.sub (ws' := (wd_5013416a h0 v0 r0 v1 v2 v3 v4 r1 r2 r3 r4 r5 r6 r7 v5 v6 r8 r9 r10 r11 v7 r12 r13 v8 v9 h1 r14 v10 v11 r15 v12 v13 r16 v14 w15 r17 v16 v17 r18 r19 r20 r21 r22 r23 v18 r24 r25 r26 v19 h1 g0 f20)) [0, 1] rfl
    have hDc := hD.sub (ws' := (wd_5013416a h0 v0 r0 v1 v2 v3 v4 r1 r2 r3 r4 r5 r6 r7 v5 v6 r8 r9 r10 r11 v7 r12 r13 v8 v9 h1 r14 v10 v11 r15 v12 v13 r16 v14 w15 r17 v16 v17 r18 r19 r20 r21 r22 r23 v18 r24 r25 r26 v19 h1 g0 f20)) [0, 1] (by decide) rfl
    have hKc := hK.sub (tys' := [(g0, .int)]) [0] rfl
    have hFc := va_free (wc := (wd_5013416a h0 v0 r0 v1 v2 v3 v4 r1 r2 r3 r4 r5 r6 r7 v5 v6 r8 r9 r10 r11 v7 r12 r13 v8 v9 h1 r14 v10 v11 r15 v12 v13 r16 v14 w15 r17 v16 v17 r18 r19 r20 r21 r22 r23 v18 r24 r25 r26 v19 h1 g0 f20)) hD hS hA [0, 1] rfl
    refine va_calli (va_runV (As := [.int v22]) (rest := [.int ra8]) ⟨hx, hb, hml, hown, hts⟩ (k_X12_stubbornOf l dC dI h0 h1 v0 r0 v1 v2 v3 v4 r1 r2 r3 r4 r5 r6 r7 v5 v6 r8 r9 r10 r11 v7 r12 r13 v8 v9 r14 v10 v11 r15 v12 v13 r16 v14 w15 r17 v16 v17 r18 r19 r20 r21 r22 r23 v18 r24 r25 r26 v19 g0 f20 v22 ⟨i_v1a, i_v1b⟩ ⟨i_v5a, i_v5b⟩ ⟨i_v6a, i_v6b⟩ ⟨i_v7a, i_v7b⟩ ⟨i_v8a, i_v8b⟩ ⟨i_v9a, i_v9b⟩ ⟨i_v10a, i_v10b⟩ ⟨i_v14a, i_v14b⟩ ⟨i_v18a, i_v18b⟩ ⟨i_v19a, i_v19b⟩ ⟨i_v22a, i_v22b⟩ ia_f20 H.size) (cwV 1 hts g_X12_setsOff_2 rfl rfl rfl (by decide +kernel) ⟨Nat.le_of_ble_eq_true rfl, Nat.le_of_ble_eq_true rfl⟩) (pv_PV12 hPc hKc hDc (q0 := 0) rfl) rfl rfl hl.1 rfl (lv_room (Nat.le_of_ble_eq_true rfl)) dX12_setsOff_27 ⟨Nat.le_of_ble_eq_true rfl, Nat.le_of_ble_eq_true rfl⟩) hS (fun q _ h => hFc q h) hFc (fun ra9 u t H1 locs ht hvm hwra9 hB hz1 hk1 hS => ?_)
    try rw [hwra9] at hB
    obtain ⟨hP1, hK1, hD1⟩ := hB
    rw [ht] at hP1
    obtain ⟨hP2, hD2⟩ := va_join (wr := []) (w1 := (wd_5013416a h0 v0 r0 v1 v2 v3 v4 r1 r2 r3 r4 r5 r6 r7 v5 v6 r8 r9 r10 r11 v7 r12 r13 v8 v9 h1 r14 v10 v11 r15 v12 v13 r16 v14 w15 r17 v16 v17 r18 r19 r20 r21 r22 r23 v18 r24 r25 r26 v19 h1 g0 f20)) hP hD [0, 1] [] rfl rfl (by decide) (by decide) hk1 hFc hP1 hD1
    clear hP hD hPc hDc hKc hFc hP1 hK1 hD1 hk1 hz1
    generalize H1 = H at hP2 hS ⊢
    have hP : va_P (dC, dI) vwCl (wd_5013416a h0 v0 r0 v1 v2 v3 v4 r1 r2 r3 r4 r5 r6 r7 v5 v6 r8 r9 r10 r11 v7 r12 r13 v8 v9 h1 r14 v10 v11 r15 v12 v13 r16 v14 w15 r17 v16 v17 r18 r19 r20 r21 r22 r23 v18 r24 r25 r26 v19 h1 g0 f20) H := hP2
    have hD : va_D A (wd_5013416a h0 v0 r0 v1 v2 v3 v4 r1 r2 r3 r4 r5 r6 r7 v5 v6 r8 r9 r10 r11 v7 r12 r13 v8 v9 h1 r14 v10 v11 r15 v12 v13 r16 v14 w15 r17 v16 v17 r18 r19 r20 r21 r22 r23 v18 r24 r25 r26 v19 h1 g0 f20) := hD2
    clear hP2 hD2
    refine lv_icmp_ne (tgt := 37) hx hb dX12_setsOff_30 (by decide) (fun c10 => ?_) (fun c10 => ?_)
    · skip
      have fc10 : ¬ (ra8.toInt = ra9.toInt) := fun h9 => c10 (Int32.toInt_inj.mp h9)
      have r1c10 := Int32.toInt_lt ra8
      have r2c10 := Int32.toInt_lt ra9
      have r3c10 := Int32.le_toInt ra8
      have r4c10 := Int32.le_toInt ra9
      refine lv_iconst (v := 0) hx hb dX12_setsOff_37 (by decide) ?_
      exact hJ6 0 H locs ls (by decide) (by decide) hP hD hS (lv_sub hl [0, 1, 2] rfl)
    · skip
      have fc10 : ra8.toInt = ra9.toInt := congrArg Int32.toInt c10
      have r1c10 := Int32.toInt_lt ra8
      have r2c10 := Int32.toInt_lt ra9
      have r3c10 := Int32.le_toInt ra8
      have r4c10 := Int32.le_toInt ra9
      refine lv_iconst (v := 1) hx hb dX12_setsOff_33 (by decide) ?_
      refine lv_goto (tgt := 38) hx hb dX12_setsOff_34 (by decide) ?_
      exact hJ6 1 H locs ls (by decide) (by decide) hP hD hS (lv_sub hl [0, 1, 2] rfl)
def q_X12_sets : List Cond := .code yX12_sets cX12_sets 3 (some .int) :: (([.code yX12_isThere cX12_isThere 2 (some .boolean), .code yX12_in cX12_in 3 (some .boolean), .initialized RX12, .static yX12_in, .methodLink RX12 217 yX12_in, .code yX12_of cX12_of 3 (some .int), .fieldLink RX12 52 "LeftArgumentsModel" "now" "[I", .instanceMethod yX12_of, .selects RX12 yX12_of yX12_of, .methodLink RX12 287 yX12_of, .instanceMethod yX12_isThere, .selects RX12 yX12_isThere yX12_isThere, .methodLink RX12 290 yX12_isThere, .code yX12_setsOff cX12_setsOff 3 (some .boolean), .methodLink RX12 411 Lib.Math.abs.name, .static Lib.Math.abs.name, .initialized "java/lang/Math", .code Lib.Math.abs.name Lib.Math.abs.code 1 (some .int), .code yX12_stubbornOf cX12_stubbornOf 2 (some .int), .instanceMethod yX12_stubbornOf, .selects RX12 yX12_stubbornOf yX12_stubbornOf, .methodLink RX12 414 yX12_stubbornOf, .instanceMethod yX12_setsOff, .selects RX12 yX12_setsOff yX12_setsOff, .methodLink RX12 401 yX12_setsOff] : List Cond) ++ wsX120)
set_option maxRecDepth 20000 in
theorem g_X12_sets_0 : GoodIn q_X12_sets (wsV RX12 290 RX12 yX12_isThere q_X12_isThere) := goodIn_app (goodIn_r _ [13, 11, 12, 3] rfl (by decide +kernel)) (goodIn_ca (goodIn_r (.code yX12_isThere cX12_isThere 2 (some .boolean) :: [.code yX12_in cX12_in 3 (some .boolean), .initialized RX12, .static yX12_in, .methodLink RX12 217 yX12_in, .code yX12_of cX12_of 3 (some .int), .fieldLink RX12 52 "LeftArgumentsModel" "now" "[I", .instanceMethod yX12_of, .selects RX12 yX12_of yX12_of, .methodLink RX12 287 yX12_of]) [1, 2, 3, 4, 5, 6, 7, 8, 9, 10] rfl (by decide +kernel)) (goodIn_sub (fun _ h => List.mem_cons_of_mem _ (List.mem_append_right _ h)) gwX12))
set_option maxRecDepth 20000 in
theorem g_X12_sets_2 : GoodIn q_X12_sets (wsV RX12 401 RX12 yX12_setsOff q_X12_setsOff) := goodIn_app (goodIn_r _ [25, 23, 24, 3] rfl (by decide +kernel)) (goodIn_ca (goodIn_r (.code yX12_setsOff cX12_setsOff 3 (some .boolean) :: [.code yX12_of cX12_of 3 (some .int), .fieldLink RX12 52 "LeftArgumentsModel" "now" "[I", .initialized RX12, .instanceMethod yX12_of, .selects RX12 yX12_of yX12_of, .methodLink RX12 287 yX12_of, .methodLink RX12 411 Lib.Math.abs.name, .static Lib.Math.abs.name, .initialized "java/lang/Math", .code Lib.Math.abs.name Lib.Math.abs.code 1 (some .int), .code yX12_stubbornOf cX12_stubbornOf 2 (some .int), .instanceMethod yX12_stubbornOf, .selects RX12 yX12_stubbornOf yX12_stubbornOf, .methodLink RX12 414 yX12_stubbornOf]) [14, 6, 7, 3, 8, 9, 10, 15, 16, 17, 18, 19, 20, 21, 22] rfl (by decide +kernel)) (goodIn_sub (fun _ h => List.mem_cons_of_mem _ (List.mem_append_right _ h)) gwX12))
set_option maxHeartbeats 4000000 in
set_option maxRecDepth 100000 in
theorem k_X12_sets (l : Launch) (dC : Nat → ClassId) (dI : Nat → Nat → Nat) (h0 : Nat) (h1 : Nat) (v0 : Int32) (r0 : Nat) (v1 : Int32) (v2 : Int32) (v3 : Int32) (v4 : Int32) (r1 : Nat) (r2 : Nat) (r3 : Nat) (r4 : Nat) (r5 : Nat) (r6 : Nat) (r7 : Nat) (v5 : Int32) (v6 : Int32) (r8 : Nat) (r9 : Nat) (r10 : Nat) (r11 : Nat) (v7 : Int32) (r12 : Nat) (r13 : Nat) (v8 : Int32) (v9 : Int32) (r14 : Nat) (v10 : Int32) (v11 : Int32) (r15 : Nat) (v12 : Int32) (v13 : Int32) (r16 : Nat) (v14 : Int32) (w15 : Int64) (r17 : Nat) (v16 : Int32) (v17 : Int32) (r18 : Nat) (r19 : Nat) (r20 : Nat) (r21 : Nat) (r22 : Nat) (r23 : Nat) (v18 : Int32) (r24 : Nat) (r25 : Nat) (r26 : Nat) (v19 : Int32) (g0 : ClassId) (f20 : Nat → Int32) (v21 : Int32) (v22 : Int32) (i_v1 : 0 ≤ v1.toInt ∧ v1.toInt ≤ 240) (i_v5 : 0 ≤ v5.toInt ∧ v5.toInt ≤ 4) (i_v6 : 0 ≤ v6.toInt ∧ v6.toInt ≤ 4) (i_v7 : 0 ≤ v7.toInt ∧ v7.toInt ≤ 8) (i_v8 : 0 ≤ v8.toInt ∧ v8.toInt ≤ 8) (i_v9 : 0 ≤ v9.toInt ∧ v9.toInt ≤ 1) (i_v10 : -1 ≤ v10.toInt ∧ v10.toInt ≤ 3) (i_v14 : 0 ≤ v14.toInt ∧ v14.toInt ≤ 40) (i_v18 : 0 ≤ v18.toInt ∧ v18.toInt ≤ 10) (i_v19 : 0 ≤ v19.toInt ∧ v19.toInt ≤ 1) (ia_f20 : (pm_NW f20)) (sz : Nat) : Met l yX12_sets q_X12_sets ({ frames := 3, cells := 0, slots := 0, locals := 65 }) (va_Pc [.ref h0, .int v21, .int v22] (fun U => U.heap.size = sz ∧ va_P (dC, dI) vwCl (wd_5013416a h0 v0 r0 v1 v2 v3 v4 r1 r2 r3 r4 r5 r6 r7 v5 v6 r8 r9 r10 r11 v7 r12 r13 v8 v9 h1 r14 v10 v11 r15 v12 v13 r16 v14 w15 r17 v16 v17 r18 r19 r20 r21 r22 r23 v18 r24 r25 r26 v19 h1 g0 f20) U.heap ∧ va_K (dC, dI) vwCl [(g0, .int)] U ∧ va_D (fun _ => True) (wd_5013416a h0 v0 r0 v1 v2 v3 v4 r1 r2 r3 r4 r5 r6 r7 v5 v6 r8 r9 r10 r11 v7 r12 r13 v8 v9 h1 r14 v10 v11 r15 v12 v13 r16 v14 w15 r17 v16 v17 r18 r19 r20 r21 r22 r23 v18 r24 r25 r26 v19 h1 g0 f20))) (va_Qi (fun (r : Int32) (r9 : Int32) => r9 = r) (fun (r : Int32) (t : State) => ((-1 ≤ r.toInt) ∧ (r.toInt ≤ 1) ∧ va_P (dC, dI) vwCl (wd_5013416a h0 v0 r0 v1 v2 v3 v4 r1 r2 r3 r4 r5 r6 r7 v5 v6 r8 r9 r10 r11 v7 r12 r13 v8 v9 h1 r14 v10 v11 r15 v12 v13 r16 v14 w15 r17 v16 v17 r18 r19 r20 r21 r22 r23 v18 r24 r25 r26 v19 h1 g0 f20) t.heap ∧ va_K (dC, dI) vwCl [] t ∧ va_D (va_A (wd_5013416a h0 v0 r0 v1 v2 v3 v4 r1 r2 r3 r4 r5 r6 r7 v5 v6 r8 r9 r10 r11 v7 r12 r13 v8 v9 h1 r14 v10 v11 r15 v12 v13 r16 v14 w15 r17 v16 v17 r18 r19 r20 r21 r22 r23 v18 r24 r25 r26 v19 h1 g0 f20) sz) (wd_5013416a h0 v0 r0 v1 v2 v3 v4 r1 r2 r3 r4 r5 r6 r7 v5 v6 r8 r9 r10 r11 v7 r12 r13 v8 v9 h1 r14 v10 v11 r15 v12 v13 r16 v14 w15 r17 v16 v17 r18 r19 r20 r21 r22 r23 v18 r24 r25 r26 v19 h1 g0 f20))) (va_A (wd_5013416a h0 v0 r0 v1 v2 v3 v4 r1 r2 r3 r4 r5 r6 r7 v5 v6 r8 r9 r10 r11 v7 r12 r13 v8 v9 h1 r14 v10 v11 r15 v12 v13 r16 v14 w15 r17 v16 v17 r18 r19 r20 r21 r22 r23 v18 r24 r25 r26 v19 h1 g0 f20) sz)) 0 0 (va_A (wd_5013416a h0 v0 r0 v1 v2 v3 v4 r1 r2 r3 r4 r5 r6 r7 v5 v6 r8 r9 r10 r11 v7 r12 r13 v8 v9 h1 r14 v10 v11 r15 v12 v13 r16 v14 w15 r17 v16 v17 r18 r19 r20 r21 r22 r23 v18 r24 r25 r26 v19 h1 g0 f20) sz) := by
  refine Met.ofW (cc := cX12_sets) (maxL := 3) (ret := (some .int)) (by decide) rfl ?_
  intro p e s m args below meth c s₁ B hml hv
  obtain ⟨i_v1a, i_v1b⟩ := i_v1
  obtain ⟨i_v5a, i_v5b⟩ := i_v5
  obtain ⟨i_v6a, i_v6b⟩ := i_v6
  obtain ⟨i_v7a, i_v7b⟩ := i_v7
  obtain ⟨i_v8a, i_v8b⟩ := i_v8
  obtain ⟨i_v9a, i_v9b⟩ := i_v9
  obtain ⟨i_v10a, i_v10b⟩ := i_v10
  obtain ⟨i_v14a, i_v14b⟩ := i_v14
  obtain ⟨i_v18a, i_v18b⟩ := i_v18
  obtain ⟨i_v19a, i_v19b⟩ := i_v19
  obtain ⟨rfl, hsz, hP, hK, hD0⟩ := hv
  have hx := B.exec
  have hb := B.bytes
  have hr := B.returns
  have hts := atoms_spec (ws := q_X12_sets) B.pre
  have hown : s.vm.findClass RX12 = some m.cls := findClass_of_methodNamed B.named
  have hlocks := B.notSynchronized
  subst hsz
  have hD := hD0.self (sz := s.heap.size)
  generalize hAe : va_A (wd_5013416a h0 v0 r0 v1 v2 v3 v4 r1 r2 r3 r4 r5 r6 r7 v5 v6 r8 r9 r10 r11 v7 r12 r13 v8 v9 h1 r14 v10 v11 r15 v12 v13 r16 v14 w15 r17 v16 v17 r18 r19 r20 r21 r22 r23 v18 r24 r25 r26 v19 h1 g0 f20) s.heap.size = A at hD ⊢
  have hA : ∀ q : Nat, s.heap.size ≤ q → A q := fun q h => by rw [← hAe]; exact Or.inr h
  have hS : va_S A s.heap s.heap [] := va_S.rf
  generalize hQ : (MQ below _ _ s 0 0 A) = Q
  have hl := lv_entry ([.ref h0, .int v21, .int v22]) (n := 3) (Nat.le_of_ble_eq_true rfl)
  rw [lg_entry_eq]
  generalize (lg_sl ([.ref h0, .int v21, .int v22]) ++ List.replicate (3 - (lg_sl ([.ref h0, .int v21, .int v22])).length) Slot.unset).toArray = ls at hl ⊢
  have hl : lv_has ls 3 [(0, .ref h0), (1, .int v21), (2, .int v22)] := hl
  obtain ⟨H, hH⟩ : ∃ H : Heap, H = s.heap := ⟨_, rfl⟩
  obtain ⟨locs, hlocs⟩ : ∃ y : List Loc, y = [] := ⟨_, rfl⟩
  have hS : va_S A s.heap H locs := by rw [hH, hlocs]; exact va_S.rf
  have hP : va_P (dC, dI) vwCl (wd_5013416a h0 v0 r0 v1 v2 v3 v4 r1 r2 r3 r4 r5 r6 r7 v5 v6 r8 r9 r10 r11 v7 r12 r13 v8 v9 h1 r14 v10 v11 r15 v12 v13 r16 v14 w15 r17 v16 v17 r18 r19 r20 r21 r22 r23 v18 r24 r25 r26 v19 h1 g0 f20) H := by rw [hH]; exact hP
  rw [← hH, ← hlocs]
  refine lv_aload_n hx hb dX12_sets_0 rfl (lv_at hl 0 rfl) ?_
  refine lv_iload_n hx hb dX12_sets_1 rfl (lv_at hl 1 rfl) ?_
  have hPc := hP.sub (ws' := (wd_5013416a h0 v0 r0 v1 v2 v3 v4 r1 r2 r3 r4 r5 r6 r7 v5 v6 r8 r9 r10 r11 v7 r12 r13 v8 v9 h1 r14 v10 v11 r15 v12 v13 r16 v14 w15 r17 v16 v17 r18 r19 r20 r21 r22 r23 v18 r24 r25 r26 v19 h1 g0 f20)) [0, 1] rfl
  have hDc := hD.sub (ws' := (wd_5013416a h0 v0 r0 v1 v2 v3 v4 r1 r2 r3 r4 r5 r6 r7 v5 v6 r8 r9 r10 r11 v7 r12 r13 v8 v9 h1 r14 v10 v11 r15 v12 v13 r16 v14 w15 r17 v16 v17 r18 r19 r20 r21 r22 r23 v18 r24 r25 r26 v19 h1 g0 f20)) [0, 1] (by decide) rfl
  have hKc := hK.sub (tys' := [(g0, .int)]) [0] rfl
  have hFc := va_free (wc := (wd_5013416a h0 v0 r0 v1 v2 v3 v4 r1 r2 r3 r4 r5 r6 r7 v5 v6 r8 r9 r10 r11 v7 r12 r13 v8 v9 h1 r14 v10 v11 r15 v12 v13 r16 v14 w15 r17 v16 v17 r18 r19 r20 r21 r22 r23 v18 r24 r25 r26 v19 h1 g0 f20)) hD hS hA [0, 1] rfl
  refine va_calli (va_runV (As := [.int v21]) (rest := []) ⟨hx, hb, hml, hown, hts⟩ (k_X12_isThere l dC dI h0 h1 v0 r0 v1 v2 v3 v4 r1 r2 r3 r4 r5 r6 r7 v5 v6 r8 r9 r10 r11 v7 r12 r13 v8 v9 r14 v10 v11 r15 v12 v13 r16 v14 w15 r17 v16 v17 r18 r19 r20 r21 r22 r23 v18 r24 r25 r26 v19 g0 f20 v21 ⟨i_v1a, i_v1b⟩ ⟨i_v5a, i_v5b⟩ ⟨i_v6a, i_v6b⟩ ⟨i_v7a, i_v7b⟩ ⟨i_v8a, i_v8b⟩ ⟨i_v9a, i_v9b⟩ ⟨i_v10a, i_v10b⟩ ⟨i_v14a, i_v14b⟩ ⟨i_v18a, i_v18b⟩ ⟨i_v19a, i_v19b⟩ ia_f20.1 H.size) (cwV 1 hts g_X12_sets_0 rfl rfl rfl (by decide +kernel) ⟨Nat.le_of_ble_eq_true rfl, Nat.le_of_ble_eq_true rfl⟩) (pv_PV12 hPc hKc hDc (q0 := 0) rfl) rfl rfl hl.1 rfl (lv_room (Nat.le_of_ble_eq_true rfl)) dX12_sets_2 ⟨Nat.le_of_ble_eq_true rfl, Nat.le_of_ble_eq_true rfl⟩) hS (fun q _ h => hFc q h) hFc (fun ra1 u t H1 locs ht hvm hwra1 hB hz1 hk1 hS => ?_)
  try rw [hwra1] at hB
  obtain ⟨pt0_ra1, pt1_ra1, pt2_ra1, pt3_ra1, pt4_ra1, pt5_ra1, hP1, hK1, hD1⟩ := hB
  rw [ht] at hP1
  obtain ⟨hP2, hD2⟩ := va_join (wr := []) (w1 := (wd_5013416a h0 v0 r0 v1 v2 v3 v4 r1 r2 r3 r4 r5 r6 r7 v5 v6 r8 r9 r10 r11 v7 r12 r13 v8 v9 h1 r14 v10 v11 r15 v12 v13 r16 v14 w15 r17 v16 v17 r18 r19 r20 r21 r22 r23 v18 r24 r25 r26 v19 h1 g0 f20)) hP hD [0, 1] [] rfl rfl (by decide) (by decide) hk1 hFc hP1 hD1
  clear hP hD hPc hDc hKc hFc hP1 hK1 hD1 hk1 hz1
  generalize H1 = H at hP2 hS ⊢
  have hP : va_P (dC, dI) vwCl (wd_5013416a h0 v0 r0 v1 v2 v3 v4 r1 r2 r3 r4 r5 r6 r7 v5 v6 r8 r9 r10 r11 v7 r12 r13 v8 v9 h1 r14 v10 v11 r15 v12 v13 r16 v14 w15 r17 v16 v17 r18 r19 r20 r21 r22 r23 v18 r24 r25 r26 v19 h1 g0 f20) H := hP2
  have hD : va_D A (wd_5013416a h0 v0 r0 v1 v2 v3 v4 r1 r2 r3 r4 r5 r6 r7 v5 v6 r8 r9 r10 r11 v7 r12 r13 v8 v9 h1 r14 v10 v11 r15 v12 v13 r16 v14 w15 r17 v16 v17 r18 r19 r20 r21 r22 r23 v18 r24 r25 r26 v19 h1 g0 f20) := hD2
  clear hP2 hD2
  have hJ3 : ∀ (x2 : Int32) (H : Heap) (locs : List Loc) (ls : Array Slot), -1 ≤ x2.toInt → x2.toInt ≤ 1 → va_P (dC, dI) vwCl (wd_5013416a h0 v0 r0 v1 v2 v3 v4 r1 r2 r3 r4 r5 r6 r7 v5 v6 r8 r9 r10 r11 v7 r12 r13 v8 v9 h1 r14 v10 v11 r15 v12 v13 r16 v14 w15 r17 v16 v17 r18 r19 r20 r21 r22 r23 v18 r24 r25 r26 v19 h1 g0 f20) H → va_D A (wd_5013416a h0 v0 r0 v1 v2 v3 v4 r1 r2 r3 r4 r5 r6 r7 v5 v6 r8 r9 r10 r11 v7 r12 r13 v8 v9 h1 r14 v10 v11 r15 v12 v13 r16 v14 w15 r17 v16 v17 r18 r19 r20 r21 r22 r23 v18 r24 r25 r26 v19 h1 g0 f20) → va_S A s.heap H locs → lv_has ls 3 [(0, .ref h0), (1, .int v21), (2, .int v22)] → W p l e ({ frames := 3, cells := 0, slots := 0, locals := 65 }) s m ([.ref h0, .int v21, .int v22] : List Value).toArray below meth c H locs 0 0 Q (F0 m 39 ls [.int x2]) := by
    intro x2 H locs ls qa_x2 qb_x2 hP hD hS hl
    subst hQ
    have hP9 := hP.sub (ws' := (wd_5013416a h0 v0 r0 v1 v2 v3 v4 r1 r2 r3 r4 r5 r6 r7 v5 v6 r8 r9 r10 r11 v7 r12 r13 v8 v9 h1 r14 v10 v11 r15 v12 v13 r16 v14 w15 r17 v16 v17 r18 r19 r20 r21 r22 r23 v18 r24 r25 r26 v19 h1 g0 f20)) [0, 1] rfl
    have hD9 := hD.sub (ws' := (wd_5013416a h0 v0 r0 v1 v2 v3 v4 r1 r2 r3 r4 r5 r6 r7 v5 v6 r8 r9 r10 r11 v7 r12 r13 v8 v9 h1 r14 v10 v11 r15 v12 v13 r16 v14 w15 r17 v16 v17 r18 r19 r20 r21 r22 r23 v18 r24 r25 r26 v19 h1 g0 f20)) [0, 1] (by decide) rfl
    have hK9 := hK.sub (tys' := []) [] rfl
    exact W.iret (v := x2) hx hb hr (fun t ht hW => ⟨⟨x2, x2, rfl, rfl, ⟨by first | omega | decide, by first | omega | decide, by rw [ht]; exact hP9, va_K.moved hW.alike hK9, hD9⟩⟩, hS.F ht⟩) hS.2.2 dX12_sets_39
  refine lv_if_eq (tgt := 21) hx hb dX12_sets_5 (by decide) (fun c4 => ?_) (fun c4 => ?_)
  · skip
    have fc4 : ra1.toInt = 0 := congrArg Int32.toInt c4
    refine lv_iconst (v := (-1)) hx hb dX12_sets_21 (by decide) ?_
    refine lv_goto (tgt := 39) hx hb dX12_sets_22 (by decide) ?_
    exact hJ3 ((-1)) H locs ls (by decide) (by decide) hP hD hS (lv_sub hl [0, 1, 2] rfl)
  · skip
    have fc4 : ¬ (ra1.toInt = 0) := fun h9 => c4 (Int32.toInt_inj.mp h9)
    have q1pt4_ra1 := pt4_ra1 (by omega)
    refine lv_aload_n hx hb dX12_sets_8 rfl (lv_at hl 0 rfl) ?_
    refine lv_iload_n hx hb dX12_sets_9 rfl (lv_at hl 2 rfl) ?_
    have hPc := hP.sub (ws' := (wd_5013416a h0 v0 r0 v1 v2 v3 v4 r1 r2 r3 r4 r5 r6 r7 v5 v6 r8 r9 r10 r11 v7 r12 r13 v8 v9 h1 r14 v10 v11 r15 v12 v13 r16 v14 w15 r17 v16 v17 r18 r19 r20 r21 r22 r23 v18 r24 r25 r26 v19 h1 g0 f20)) [0, 1] rfl
    have hDc := hD.sub (ws' := (wd_5013416a h0 v0 r0 v1 v2 v3 v4 r1 r2 r3 r4 r5 r6 r7 v5 v6 r8 r9 r10 r11 v7 r12 r13 v8 v9 h1 r14 v10 v11 r15 v12 v13 r16 v14 w15 r17 v16 v17 r18 r19 r20 r21 r22 r23 v18 r24 r25 r26 v19 h1 g0 f20)) [0, 1] (by decide) rfl
    have hKc := hK.sub (tys' := [(g0, .int)]) [0] rfl
    have hFc := va_free (wc := (wd_5013416a h0 v0 r0 v1 v2 v3 v4 r1 r2 r3 r4 r5 r6 r7 v5 v6 r8 r9 r10 r11 v7 r12 r13 v8 v9 h1 r14 v10 v11 r15 v12 v13 r16 v14 w15 r17 v16 v17 r18 r19 r20 r21 r22 r23 v18 r24 r25 r26 v19 h1 g0 f20)) hD hS hA [0, 1] rfl
    refine va_calli (va_runV (As := [.int v22]) (rest := []) ⟨hx, hb, hml, hown, hts⟩ (k_X12_isThere l dC dI h0 h1 v0 r0 v1 v2 v3 v4 r1 r2 r3 r4 r5 r6 r7 v5 v6 r8 r9 r10 r11 v7 r12 r13 v8 v9 r14 v10 v11 r15 v12 v13 r16 v14 w15 r17 v16 v17 r18 r19 r20 r21 r22 r23 v18 r24 r25 r26 v19 g0 f20 v22 ⟨i_v1a, i_v1b⟩ ⟨i_v5a, i_v5b⟩ ⟨i_v6a, i_v6b⟩ ⟨i_v7a, i_v7b⟩ ⟨i_v8a, i_v8b⟩ ⟨i_v9a, i_v9b⟩ ⟨i_v10a, i_v10b⟩ ⟨i_v14a, i_v14b⟩ ⟨i_v18a, i_v18b⟩ ⟨i_v19a, i_v19b⟩ ia_f20.1 H.size) (cwV 1 hts g_X12_sets_0 rfl rfl rfl (by decide +kernel) ⟨Nat.le_of_ble_eq_true rfl, Nat.le_of_ble_eq_true rfl⟩) (pv_PV12 hPc hKc hDc (q0 := 0) rfl) rfl rfl hl.1 rfl (lv_room (Nat.le_of_ble_eq_true rfl)) dX12_sets_10 ⟨Nat.le_of_ble_eq_true rfl, Nat.le_of_ble_eq_true rfl⟩) hS (fun q _ h => hFc q h) hFc (fun ra5 u t H1 locs ht hvm hwra5 hB hz1 hk1 hS => ?_)
    try rw [hwra5] at hB
    obtain ⟨pt0_ra5, pt1_ra5, pt2_ra5, pt3_ra5, pt4_ra5, pt5_ra5, hP1, hK1, hD1⟩ := hB
    rw [ht] at hP1
    obtain ⟨hP2, hD2⟩ := va_join (wr := []) (w1 := (wd_5013416a h0 v0 r0 v1 v2 v3 v4 r1 r2 r3 r4 r5 r6 r7 v5 v6 r8 r9 r10 r11 v7 r12 r13 v8 v9 h1 r14 v10 v11 r15 v12 v13 r16 v14 w15 r17 v16 v17 r18 r19 r20 r21 r22 r23 v18 r24 r25 r26 v19 h1 g0 f20)) hP hD [0, 1] [] rfl rfl (by decide) (by decide) hk1 hFc hP1 hD1
    clear hP hD hPc hDc hKc hFc hP1 hK1 hD1 hk1 hz1
    generalize H1 = H at hP2 hS ⊢
    have hP : va_P (dC, dI) vwCl (wd_5013416a h0 v0 r0 v1 v2 v3 v4 r1 r2 r3 r4 r5 r6 r7 v5 v6 r8 r9 r10 r11 v7 r12 r13 v8 v9 h1 r14 v10 v11 r15 v12 v13 r16 v14 w15 r17 v16 v17 r18 r19 r20 r21 r22 r23 v18 r24 r25 r26 v19 h1 g0 f20) H := hP2
    have hD : va_D A (wd_5013416a h0 v0 r0 v1 v2 v3 v4 r1 r2 r3 r4 r5 r6 r7 v5 v6 r8 r9 r10 r11 v7 r12 r13 v8 v9 h1 r14 v10 v11 r15 v12 v13 r16 v14 w15 r17 v16 v17 r18 r19 r20 r21 r22 r23 v18 r24 r25 r26 v19 h1 g0 f20) := hD2
    clear hP2 hD2
    refine lv_if_eq (tgt := 21) hx hb dX12_sets_13 (by decide) (fun c6 => ?_) (fun c6 => ?_)
    · skip
      have fc6 : ra5.toInt = 0 := congrArg Int32.toInt c6
      refine lv_iconst (v := (-1)) hx hb dX12_sets_21 (by decide) ?_
      refine lv_goto (tgt := 39) hx hb dX12_sets_22 (by decide) ?_
      exact hJ3 ((-1)) H locs ls (by decide) (by decide) hP hD hS (lv_sub hl [0, 1, 2] rfl)
    · skip
      have fc6 : ¬ (ra5.toInt = 0) := fun h9 => c6 (Int32.toInt_inj.mp h9)
      have q1pt4_ra5 := pt4_ra5 (by omega)
      refine lv_iload_n hx hb dX12_sets_16 rfl (lv_at hl 1 rfl) ?_
      refine lv_iload_n hx hb dX12_sets_17 rfl (lv_at hl 2 rfl) ?_
      refine lv_icmp_ne (tgt := 25) hx hb dX12_sets_18 (by decide) (fun c7 => ?_) (fun c7 => ?_)
      · skip
        have fc7 : ¬ (v21.toInt = v22.toInt) := fun h9 => c7 (Int32.toInt_inj.mp h9)
        have r1c7 := Int32.toInt_lt v21
        have r2c7 := Int32.toInt_lt v22
        have r3c7 := Int32.le_toInt v21
        have r4c7 := Int32.le_toInt v22
        refine lv_aload_n hx hb dX12_sets_25 rfl (lv_at hl 0 rfl) ?_
        refine lv_iload_n hx hb dX12_sets_26 rfl (lv_at hl 1 rfl) ?_
        refine lv_iload_n hx hb dX12_sets_27 rfl (lv_at hl 2 rfl) ?_
        have hPc := hP.sub (ws' := (wd_5013416a h0 v0 r0 v1 v2 v3 v4 r1 r2 r3 r4 r5 r6 r7 v5 v6 r8 r9 r10 r11 v7 r12 r13 v8 v9 h1 r14 v10 v11 r15 v12 v13 r16 v14 w15 r17 v16 v17 r18 r19 r20 r21 r22 r23 v18 r24 r25 r26 v19 h1 g0 f20)) [0, 1] rfl
        have hDc := hD.sub (ws' := (wd_5013416a h0 v0 r0 v1 v2 v3 v4 r1 r2 r3 r4 r5 r6 r7 v5 v6 r8 r9 r10 r11 v7 r12 r13 v8 v9 h1 r14 v10 v11 r15 v12 v13 r16 v14 w15 r17 v16 v17 r18 r19 r20 r21 r22 r23 v18 r24 r25 r26 v19 h1 g0 f20)) [0, 1] (by decide) rfl
        have hKc := hK.sub (tys' := [(g0, .int)]) [0] rfl
        have hFc := va_free (wc := (wd_5013416a h0 v0 r0 v1 v2 v3 v4 r1 r2 r3 r4 r5 r6 r7 v5 v6 r8 r9 r10 r11 v7 r12 r13 v8 v9 h1 r14 v10 v11 r15 v12 v13 r16 v14 w15 r17 v16 v17 r18 r19 r20 r21 r22 r23 v18 r24 r25 r26 v19 h1 g0 f20)) hD hS hA [0, 1] rfl
        refine va_calli (va_runV (As := [.int v21, .int v22]) (rest := []) ⟨hx, hb, hml, hown, hts⟩ (k_X12_setsOff l dC dI h0 h1 v0 r0 v1 v2 v3 v4 r1 r2 r3 r4 r5 r6 r7 v5 v6 r8 r9 r10 r11 v7 r12 r13 v8 v9 r14 v10 v11 r15 v12 v13 r16 v14 w15 r17 v16 v17 r18 r19 r20 r21 r22 r23 v18 r24 r25 r26 v19 g0 f20 v21 v22 ⟨i_v1a, i_v1b⟩ ⟨i_v5a, i_v5b⟩ ⟨i_v6a, i_v6b⟩ ⟨i_v7a, i_v7b⟩ ⟨i_v8a, i_v8b⟩ ⟨i_v9a, i_v9b⟩ ⟨i_v10a, i_v10b⟩ ⟨i_v14a, i_v14b⟩ ⟨i_v18a, i_v18b⟩ ⟨i_v19a, i_v19b⟩ ⟨by first | omega | decide, by first | omega | decide⟩ ⟨by first | omega | decide, by first | omega | decide⟩ ia_f20 H.size) (cwV 2 hts g_X12_sets_2 rfl rfl rfl (by decide +kernel) ⟨Nat.le_of_ble_eq_true rfl, Nat.le_of_ble_eq_true rfl⟩) (pv_PV12 hPc hKc hDc (q0 := 0) rfl) rfl rfl hl.1 rfl (lv_room (Nat.le_of_ble_eq_true rfl)) dX12_sets_28 ⟨Nat.le_of_ble_eq_true rfl, Nat.le_of_ble_eq_true rfl⟩) hS (fun q _ h => hFc q h) hFc (fun ra8 u t H1 locs ht hvm hwra8 hB hz1 hk1 hS => ?_)
        try rw [hwra8] at hB
        obtain ⟨pt0_ra8, pt1_ra8, hP1, hK1, hD1⟩ := hB
        rw [ht] at hP1
        obtain ⟨hP2, hD2⟩ := va_join (wr := []) (w1 := (wd_5013416a h0 v0 r0 v1 v2 v3 v4 r1 r2 r3 r4 r5 r6 r7 v5 v6 r8 r9 r10 r11 v7 r12 r13 v8 v9 h1 r14 v10 v11 r15 v12 v13 r16 v14 w15 r17 v16 v17 r18 r19 r20 r21 r22 r23 v18 r24 r25 r26 v19 h1 g0 f20)) hP hD [0, 1] [] rfl rfl (by decide) (by decide) hk1 hFc hP1 hD1
        clear hP hD hPc hDc hKc hFc hP1 hK1 hD1 hk1 hz1
        generalize H1 = H at hP2 hS ⊢
        have hP : va_P (dC, dI) vwCl (wd_5013416a h0 v0 r0 v1 v2 v3 v4 r1 r2 r3 r4 r5 r6 r7 v5 v6 r8 r9 r10 r11 v7 r12 r13 v8 v9 h1 r14 v10 v11 r15 v12 v13 r16 v14 w15 r17 v16 v17 r18 r19 r20 r21 r22 r23 v18 r24 r25 r26 v19 h1 g0 f20) H := hP2
        have hD : va_D A (wd_5013416a h0 v0 r0 v1 v2 v3 v4 r1 r2 r3 r4 r5 r6 r7 v5 v6 r8 r9 r10 r11 v7 r12 r13 v8 v9 h1 r14 v10 v11 r15 v12 v13 r16 v14 w15 r17 v16 v17 r18 r19 r20 r21 r22 r23 v18 r24 r25 r26 v19 h1 g0 f20) := hD2
        clear hP2 hD2
        refine lv_if_eq (tgt := 38) hx hb dX12_sets_31 (by decide) (fun c9 => ?_) (fun c9 => ?_)
        · skip
          have fc9 : ra8.toInt = 0 := congrArg Int32.toInt c9
          refine lv_iconst (v := 0) hx hb dX12_sets_38 (by decide) ?_
          exact hJ3 0 H locs ls (by decide) (by decide) hP hD hS (lv_sub hl [0, 1, 2] rfl)
        · skip
          have fc9 : ¬ (ra8.toInt = 0) := fun h9 => c9 (Int32.toInt_inj.mp h9)
          refine lv_iconst (v := 1) hx hb dX12_sets_34 (by decide) ?_
          refine lv_goto (tgt := 39) hx hb dX12_sets_35 (by decide) ?_
          exact hJ3 1 H locs ls (by decide) (by decide) hP hD hS (lv_sub hl [0, 1, 2] rfl)
      · skip
        have fc7 : v21.toInt = v22.toInt := congrArg Int32.toInt c7
        have r1c7 := Int32.toInt_lt v21
        have r2c7 := Int32.toInt_lt v22
        have r3c7 := Int32.le_toInt v21
        have r4c7 := Int32.le_toInt v22
        refine lv_iconst (v := (-1)) hx hb dX12_sets_21 (by decide) ?_
        refine lv_goto (tgt := 39) hx hb dX12_sets_22 (by decide) ?_
        exact hJ3 ((-1)) H locs ls (by decide) (by decide) hP hD hS (lv_sub hl [0, 1, 2] rfl)
def q_X12_quarrels : List Cond := .code yX12_quarrels cX12_quarrels 4 (some .int) :: (([.code yX12_isThere cX12_isThere 2 (some .boolean), .code yX12_in cX12_in 3 (some .boolean), .initialized RX12, .static yX12_in, .methodLink RX12 217 yX12_in, .code yX12_of cX12_of 3 (some .int), .fieldLink RX12 52 "LeftArgumentsModel" "now" "[I", .instanceMethod yX12_of, .selects RX12 yX12_of yX12_of, .methodLink RX12 287 yX12_of, .instanceMethod yX12_isThere, .selects RX12 yX12_isThere yX12_isThere, .methodLink RX12 290 yX12_isThere, .code yX12_setsOff cX12_setsOff 3 (some .boolean), .methodLink RX12 411 Lib.Math.abs.name, .static Lib.Math.abs.name, .initialized "java/lang/Math", .code Lib.Math.abs.name Lib.Math.abs.code 1 (some .int), .code yX12_stubbornOf cX12_stubbornOf 2 (some .int), .instanceMethod yX12_stubbornOf, .selects RX12 yX12_stubbornOf yX12_stubbornOf, .methodLink RX12 414 yX12_stubbornOf, .instanceMethod yX12_setsOff, .selects RX12 yX12_setsOff yX12_setsOff, .methodLink RX12 401 yX12_setsOff] : List Cond) ++ wsX120)
set_option maxRecDepth 20000 in
theorem g_X12_quarrels_0 : GoodIn q_X12_quarrels (wsV RX12 290 RX12 yX12_isThere q_X12_isThere) := goodIn_app (goodIn_r _ [13, 11, 12, 3] rfl (by decide +kernel)) (goodIn_ca (goodIn_r (.code yX12_isThere cX12_isThere 2 (some .boolean) :: [.code yX12_in cX12_in 3 (some .boolean), .initialized RX12, .static yX12_in, .methodLink RX12 217 yX12_in, .code yX12_of cX12_of 3 (some .int), .fieldLink RX12 52 "LeftArgumentsModel" "now" "[I", .instanceMethod yX12_of, .selects RX12 yX12_of yX12_of, .methodLink RX12 287 yX12_of]) [1, 2, 3, 4, 5, 6, 7, 8, 9, 10] rfl (by decide +kernel)) (goodIn_sub (fun _ h => List.mem_cons_of_mem _ (List.mem_append_right _ h)) gwX12))
set_option maxRecDepth 20000 in
theorem g_X12_quarrels_2 : GoodIn q_X12_quarrels (wsV RX12 401 RX12 yX12_setsOff q_X12_setsOff) := goodIn_app (goodIn_r _ [25, 23, 24, 3] rfl (by decide +kernel)) (goodIn_ca (goodIn_r (.code yX12_setsOff cX12_setsOff 3 (some .boolean) :: [.code yX12_of cX12_of 3 (some .int), .fieldLink RX12 52 "LeftArgumentsModel" "now" "[I", .initialized RX12, .instanceMethod yX12_of, .selects RX12 yX12_of yX12_of, .methodLink RX12 287 yX12_of, .methodLink RX12 411 Lib.Math.abs.name, .static Lib.Math.abs.name, .initialized "java/lang/Math", .code Lib.Math.abs.name Lib.Math.abs.code 1 (some .int), .code yX12_stubbornOf cX12_stubbornOf 2 (some .int), .instanceMethod yX12_stubbornOf, .selects RX12 yX12_stubbornOf yX12_stubbornOf, .methodLink RX12 414 yX12_stubbornOf]) [14, 6, 7, 3, 8, 9, 10, 15, 16, 17, 18, 19, 20, 21, 22] rfl (by decide +kernel)) (goodIn_sub (fun _ h => List.mem_cons_of_mem _ (List.mem_append_right _ h)) gwX12))
set_option maxHeartbeats 4000000 in
set_option maxRecDepth 100000 in
theorem k_X12_quarrels (l : Launch) (dC : Nat → ClassId) (dI : Nat → Nat → Nat) (h0 : Nat) (h1 : Nat) (v0 : Int32) (r0 : Nat) (v1 : Int32) (v2 : Int32) (v3 : Int32) (v4 : Int32) (r1 : Nat) (r2 : Nat) (r3 : Nat) (r4 : Nat) (r5 : Nat) (r6 : Nat) (r7 : Nat) (v5 : Int32) (v6 : Int32) (r8 : Nat) (r9 : Nat) (r10 : Nat) (r11 : Nat) (v7 : Int32) (r12 : Nat) (r13 : Nat) (v8 : Int32) (v9 : Int32) (r14 : Nat) (v10 : Int32) (v11 : Int32) (r15 : Nat) (v12 : Int32) (v13 : Int32) (r16 : Nat) (v14 : Int32) (w15 : Int64) (r17 : Nat) (v16 : Int32) (v17 : Int32) (r18 : Nat) (r19 : Nat) (r20 : Nat) (r21 : Nat) (r22 : Nat) (r23 : Nat) (v18 : Int32) (r24 : Nat) (r25 : Nat) (r26 : Nat) (v19 : Int32) (g0 : ClassId) (f20 : Nat → Int32) (i_v1 : 0 ≤ v1.toInt ∧ v1.toInt ≤ 240) (i_v5 : 0 ≤ v5.toInt ∧ v5.toInt ≤ 4) (i_v6 : 0 ≤ v6.toInt ∧ v6.toInt ≤ 4) (i_v7 : 0 ≤ v7.toInt ∧ v7.toInt ≤ 8) (i_v8 : 0 ≤ v8.toInt ∧ v8.toInt ≤ 8) (i_v9 : 0 ≤ v9.toInt ∧ v9.toInt ≤ 1) (i_v10 : -1 ≤ v10.toInt ∧ v10.toInt ≤ 3) (i_v14 : 0 ≤ v14.toInt ∧ v14.toInt ≤ 40) (i_v18 : 0 ≤ v18.toInt ∧ v18.toInt ≤ 10) (i_v19 : 0 ≤ v19.toInt ∧ v19.toInt ≤ 1) (ia_f20 : (pm_NW f20)) (sz : Nat) : Met l yX12_quarrels q_X12_quarrels ({ frames := 3, cells := 0, slots := 0, locals := 65 }) (va_Pc [.ref h0] (fun U => U.heap.size = sz ∧ va_P (dC, dI) vwCl (wd_5013416a h0 v0 r0 v1 v2 v3 v4 r1 r2 r3 r4 r5 r6 r7 v5 v6 r8 r9 r10 r11 v7 r12 r13 v8 v9 h1 r14 v10 v11 r15 v12 v13 r16 v14 w15 r17 v16 v17 r18 r19 r20 r21 r22 r23 v18 r24 r25 r26 v19 h1 g0 f20) U.heap ∧ va_K (dC, dI) vwCl [(g0, .int)] U ∧ va_D (fun _ => True) (wd_5013416a h0 v0 r0 v1 v2 v3 v4 r1 r2 r3 r4 r5 r6 r7 v5 v6 r8 r9 r10 r11 v7 r12 r13 v8 v9 h1 r14 v10 v11 r15 v12 v13 r16 v14 w15 r17 v16 v17 r18 r19 r20 r21 r22 r23 v18 r24 r25 r26 v19 h1 g0 f20))) (va_Qi (fun (r : Int32) (r9 : Int32) => r9 = r) (fun (r : Int32) (t : State) => (va_P (dC, dI) vwCl (wd_5013416a h0 v0 r0 v1 v2 v3 v4 r1 r2 r3 r4 r5 r6 r7 v5 v6 r8 r9 r10 r11 v7 r12 r13 v8 v9 h1 r14 v10 v11 r15 v12 v13 r16 v14 w15 r17 v16 v17 r18 r19 r20 r21 r22 r23 v18 r24 r25 r26 v19 h1 g0 f20) t.heap ∧ va_K (dC, dI) vwCl [] t ∧ va_D (va_A (wd_5013416a h0 v0 r0 v1 v2 v3 v4 r1 r2 r3 r4 r5 r6 r7 v5 v6 r8 r9 r10 r11 v7 r12 r13 v8 v9 h1 r14 v10 v11 r15 v12 v13 r16 v14 w15 r17 v16 v17 r18 r19 r20 r21 r22 r23 v18 r24 r25 r26 v19 h1 g0 f20) sz) (wd_5013416a h0 v0 r0 v1 v2 v3 v4 r1 r2 r3 r4 r5 r6 r7 v5 v6 r8 r9 r10 r11 v7 r12 r13 v8 v9 h1 r14 v10 v11 r15 v12 v13 r16 v14 w15 r17 v16 v17 r18 r19 r20 r21 r22 r23 v18 r24 r25 r26 v19 h1 g0 f20))) (va_A (wd_5013416a h0 v0 r0 v1 v2 v3 v4 r1 r2 r3 r4 r5 r6 r7 v5 v6 r8 r9 r10 r11 v7 r12 r13 v8 v9 h1 r14 v10 v11 r15 v12 v13 r16 v14 w15 r17 v16 v17 r18 r19 r20 r21 r22 r23 v18 r24 r25 r26 v19 h1 g0 f20) sz)) 0 0 (va_A (wd_5013416a h0 v0 r0 v1 v2 v3 v4 r1 r2 r3 r4 r5 r6 r7 v5 v6 r8 r9 r10 r11 v7 r12 r13 v8 v9 h1 r14 v10 v11 r15 v12 v13 r16 v14 w15 r17 v16 v17 r18 r19 r20 r21 r22 r23 v18 r24 r25 r26 v19 h1 g0 f20) sz) := by
  refine Met.ofW (cc := cX12_quarrels) (maxL := 4) (ret := (some .int)) (by decide) rfl ?_
  intro p e s m args below meth c s₁ B hml hv
  obtain ⟨i_v1a, i_v1b⟩ := i_v1
  obtain ⟨i_v5a, i_v5b⟩ := i_v5
  obtain ⟨i_v6a, i_v6b⟩ := i_v6
  obtain ⟨i_v7a, i_v7b⟩ := i_v7
  obtain ⟨i_v8a, i_v8b⟩ := i_v8
  obtain ⟨i_v9a, i_v9b⟩ := i_v9
  obtain ⟨i_v10a, i_v10b⟩ := i_v10
  obtain ⟨i_v14a, i_v14b⟩ := i_v14
  obtain ⟨i_v18a, i_v18b⟩ := i_v18
  obtain ⟨i_v19a, i_v19b⟩ := i_v19
  obtain ⟨rfl, hsz, hP, hK, hD0⟩ := hv
  have hx := B.exec
  have hb := B.bytes
  have hr := B.returns
  have hts := atoms_spec (ws := q_X12_quarrels) B.pre
  have hown : s.vm.findClass RX12 = some m.cls := findClass_of_methodNamed B.named
  have hlocks := B.notSynchronized
  subst hsz
  have hD := hD0.self (sz := s.heap.size)
  generalize hAe : va_A (wd_5013416a h0 v0 r0 v1 v2 v3 v4 r1 r2 r3 r4 r5 r6 r7 v5 v6 r8 r9 r10 r11 v7 r12 r13 v8 v9 h1 r14 v10 v11 r15 v12 v13 r16 v14 w15 r17 v16 v17 r18 r19 r20 r21 r22 r23 v18 r24 r25 r26 v19 h1 g0 f20) s.heap.size = A at hD ⊢
  have hA : ∀ q : Nat, s.heap.size ≤ q → A q := fun q h => by rw [← hAe]; exact Or.inr h
  have hS : va_S A s.heap s.heap [] := va_S.rf
  generalize hQ : (MQ below _ _ s 0 0 A) = Q
  have hl := lv_entry ([.ref h0]) (n := 4) (Nat.le_of_ble_eq_true rfl)
  rw [lg_entry_eq]
  generalize (lg_sl ([.ref h0]) ++ List.replicate (4 - (lg_sl ([.ref h0])).length) Slot.unset).toArray = ls at hl ⊢
  have hl : lv_has ls 4 [(0, .ref h0)] := hl
  obtain ⟨H, hH⟩ : ∃ H : Heap, H = s.heap := ⟨_, rfl⟩
  obtain ⟨locs, hlocs⟩ : ∃ y : List Loc, y = [] := ⟨_, rfl⟩
  have hS : va_S A s.heap H locs := by rw [hH, hlocs]; exact va_S.rf
  have hP : va_P (dC, dI) vwCl (wd_5013416a h0 v0 r0 v1 v2 v3 v4 r1 r2 r3 r4 r5 r6 r7 v5 v6 r8 r9 r10 r11 v7 r12 r13 v8 v9 h1 r14 v10 v11 r15 v12 v13 r16 v14 w15 r17 v16 v17 r18 r19 r20 r21 r22 r23 v18 r24 r25 r26 v19 h1 g0 f20) H := by rw [hH]; exact hP
  rw [← hH, ← hlocs]
  refine lv_iconst (v := 0) hx hb dX12_quarrels_0 (by decide) ?_
  refine lv_istore_n (lv' := [(1, .int 0), (0, .ref h0)]) hx hb dX12_quarrels_1 rfl hl (by decide) rfl (fun ls hl => ?_)
  refine lv_iconst (v := 0) hx hb dX12_quarrels_2 (by decide) ?_
  refine lv_istore_n (lv' := [(2, .int 0), (1, .int 0), (0, .ref h0)]) hx hb dX12_quarrels_3 rfl hl (by decide) rfl (fun ls hl => ?_)
  have hL10 : ∀ (n9 : Nat), ∀ (x6 : Int32) (x7 : Int32) (H : Heap) (locs : List Loc) (ls : Array Slot), 0 ≤ x6.toInt → x6.toInt ≤ 8 → (8 - x6.toInt).toNat < n9 → va_P (dC, dI) vwCl (wd_5013416a h0 v0 r0 v1 v2 v3 v4 r1 r2 r3 r4 r5 r6 r7 v5 v6 r8 r9 r10 r11 v7 r12 r13 v8 v9 h1 r14 v10 v11 r15 v12 v13 r16 v14 w15 r17 v16 v17 r18 r19 r20 r21 r22 r23 v18 r24 r25 r26 v19 h1 g0 f20) H → va_D A (wd_5013416a h0 v0 r0 v1 v2 v3 v4 r1 r2 r3 r4 r5 r6 r7 v5 v6 r8 r9 r10 r11 v7 r12 r13 v8 v9 h1 r14 v10 v11 r15 v12 v13 r16 v14 w15 r17 v16 v17 r18 r19 r20 r21 r22 r23 v18 r24 r25 r26 v19 h1 g0 f20) → va_S A s.heap H locs → lv_has ls 4 [(2, .int x6), (1, .int x7), (0, .ref h0)] → W p l e ({ frames := 3, cells := 0, slots := 0, locals := 65 }) s m ([.ref h0] : List Value).toArray below meth c H locs 0 0 Q (F0 m 4 ls []) := by
    intro n9
    induction n9 with
    | zero => intro x6 x7 H locs ls qa_x6 qb_x6 hm9 hP hD hS hl; exact absurd hm9 (Nat.not_lt_zero _)
    | succ n9 ih_hL10 =>
      intro x6 x7 H locs ls qa_x6 qb_x6 hm9 hP hD hS hl
      refine lv_iload_n hx hb dX12_quarrels_4 rfl (lv_at hl 0 rfl) ?_
      refine lv_bipush (v := 8) hx hb dX12_quarrels_5 (by decide) ?_
      refine lv_icmp_ge (tgt := 62) hx hb dX12_quarrels_7 (by decide) (fun c11 => ?_) (fun c11 => ?_)
      · skip
        have fc11 : 8 ≤ x6.toInt := Int32.le_iff_toInt_le.mp c11
        refine lv_iload_n hx hb dX12_quarrels_62 rfl (lv_at hl 1 rfl) ?_
        subst hQ
        have hP9 := hP.sub (ws' := (wd_5013416a h0 v0 r0 v1 v2 v3 v4 r1 r2 r3 r4 r5 r6 r7 v5 v6 r8 r9 r10 r11 v7 r12 r13 v8 v9 h1 r14 v10 v11 r15 v12 v13 r16 v14 w15 r17 v16 v17 r18 r19 r20 r21 r22 r23 v18 r24 r25 r26 v19 h1 g0 f20)) [0, 1] rfl
        have hD9 := hD.sub (ws' := (wd_5013416a h0 v0 r0 v1 v2 v3 v4 r1 r2 r3 r4 r5 r6 r7 v5 v6 r8 r9 r10 r11 v7 r12 r13 v8 v9 h1 r14 v10 v11 r15 v12 v13 r16 v14 w15 r17 v16 v17 r18 r19 r20 r21 r22 r23 v18 r24 r25 r26 v19 h1 g0 f20)) [0, 1] (by decide) rfl
        have hK9 := hK.sub (tys' := []) [] rfl
        exact W.iret (v := x7) hx hb hr (fun t ht hW => ⟨⟨x7, x7, rfl, rfl, ⟨by rw [ht]; exact hP9, va_K.moved hW.alike hK9, hD9⟩⟩, hS.F ht⟩) hS.2.2 dX12_quarrels_63
      · skip
        have fc11 : ¬ (8 ≤ x6.toInt) := fun h9 => c11 (Int32.le_iff_toInt_le.mpr h9)
        refine lv_iconst (v := 0) hx hb dX12_quarrels_10 (by decide) ?_
        refine lv_istore_n (lv' := [(3, .int 0), (2, .int x6), (1, .int x7), (0, .ref h0)]) hx hb dX12_quarrels_11 rfl hl (by decide) rfl (fun ls hl => ?_)
        have hL20 : ∀ (n9 : Nat), ∀ (x16 : Int32) (x17 : Int32) (H : Heap) (locs : List Loc) (ls : Array Slot), 0 ≤ x16.toInt → x16.toInt ≤ 7 → (7 - x16.toInt).toNat < n9 → va_P (dC, dI) vwCl (wd_5013416a h0 v0 r0 v1 v2 v3 v4 r1 r2 r3 r4 r5 r6 r7 v5 v6 r8 r9 r10 r11 v7 r12 r13 v8 v9 h1 r14 v10 v11 r15 v12 v13 r16 v14 w15 r17 v16 v17 r18 r19 r20 r21 r22 r23 v18 r24 r25 r26 v19 h1 g0 f20) H → va_D A (wd_5013416a h0 v0 r0 v1 v2 v3 v4 r1 r2 r3 r4 r5 r6 r7 v5 v6 r8 r9 r10 r11 v7 r12 r13 v8 v9 h1 r14 v10 v11 r15 v12 v13 r16 v14 w15 r17 v16 v17 r18 r19 r20 r21 r22 r23 v18 r24 r25 r26 v19 h1 g0 f20) → va_S A s.heap H locs → lv_has ls 4 [(3, .int x16), (2, .int x6), (1, .int x17), (0, .ref h0)] → W p l e ({ frames := 3, cells := 0, slots := 0, locals := 65 }) s m ([.ref h0] : List Value).toArray below meth c H locs 0 0 Q (F0 m 12 ls []) := by
          intro n9
          induction n9 with
          | zero => intro x16 x17 H locs ls qa_x16 qb_x16 hm9 hP hD hS hl; exact absurd hm9 (Nat.not_lt_zero _)
          | succ n9 ih_hL20 =>
            intro x16 x17 H locs ls qa_x16 qb_x16 hm9 hP hD hS hl
            refine lv_iload_n hx hb dX12_quarrels_12 rfl (lv_at hl 0 rfl) ?_
            refine lv_iload_n hx hb dX12_quarrels_13 rfl (lv_at hl 1 rfl) ?_
            refine lv_icmp_ge (tgt := 56) hx hb dX12_quarrels_14 (by decide) (fun c21 => ?_) (fun c21 => ?_)
            · skip
              have fc21 : x6.toInt ≤ x16.toInt := Int32.le_iff_toInt_le.mp c21
              have r1c21 := Int32.toInt_lt x16
              have r2c21 := Int32.toInt_lt x6
              have r3c21 := Int32.le_toInt x16
              have r4c21 := Int32.le_toInt x6
              obtain ⟨t22, et22⟩ : ∃ y : Int32, y = x6 + 1 := ⟨_, rfl⟩
              have gt22 : t22.toInt = x6.toInt + (1) := pv_add (a := x6.toInt) (b := (1)) et22 rfl (by decide) (by omega) (by omega)
              refine lv_iinc (v := t22) (lv' := [(2, .int t22), (3, .int x16), (1, .int x17), (0, .ref h0)]) hx hb dX12_quarrels_56 hl (k := 1) rfl (by rw [et22]; rfl) (by decide) rfl (fun ls hl => ?_)
              refine lv_goto (tgt := 4) hx hb dX12_quarrels_59 (by decide) ?_
              exact ih_hL10 t22 x17 H locs ls (by first | omega | decide) (by first | omega | decide) (by first | omega | (simp only [Int.toNat] at *; omega)) hP hD hS (lv_sub hl [0, 2, 3] rfl)
            · skip
              have fc21 : ¬ (x6.toInt ≤ x16.toInt) := fun h9 => c21 (Int32.le_iff_toInt_le.mpr h9)
              have r1c21 := Int32.toInt_lt x16
              have r2c21 := Int32.toInt_lt x6
              have r3c21 := Int32.le_toInt x16
              have r4c21 := Int32.le_toInt x6
              refine lv_iload_n hx hb dX12_quarrels_17 rfl (lv_at hl 2 rfl) ?_
              refine lv_aload_n hx hb dX12_quarrels_18 rfl (lv_at hl 3 rfl) ?_
              refine lv_iload_n hx hb dX12_quarrels_19 rfl (lv_at hl 1 rfl) ?_
              have hPc := hP.sub (ws' := (wd_5013416a h0 v0 r0 v1 v2 v3 v4 r1 r2 r3 r4 r5 r6 r7 v5 v6 r8 r9 r10 r11 v7 r12 r13 v8 v9 h1 r14 v10 v11 r15 v12 v13 r16 v14 w15 r17 v16 v17 r18 r19 r20 r21 r22 r23 v18 r24 r25 r26 v19 h1 g0 f20)) [0, 1] rfl
              have hDc := hD.sub (ws' := (wd_5013416a h0 v0 r0 v1 v2 v3 v4 r1 r2 r3 r4 r5 r6 r7 v5 v6 r8 r9 r10 r11 v7 r12 r13 v8 v9 h1 r14 v10 v11 r15 v12 v13 r16 v14 w15 r17 v16 v17 r18 r19 r20 r21 r22 r23 v18 r24 r25 r26 v19 h1 g0 f20)) [0, 1] (by decide) rfl
              have hKc := hK.sub (tys' := [(g0, .int)]) [0] rfl
              have hFc := va_free (wc := (wd_5013416a h0 v0 r0 v1 v2 v3 v4 r1 r2 r3 r4 r5 r6 r7 v5 v6 r8 r9 r10 r11 v7 r12 r13 v8 v9 h1 r14 v10 v11 r15 v12 v13 r16 v14 w15 r17 v16 v17 r18 r19 r20 r21 r22 r23 v18 r24 r25 r26 v19 h1 g0 f20)) hD hS hA [0, 1] rfl
              refine va_calli (va_runV (As := [.int x6]) (rest := [.int x17]) ⟨hx, hb, hml, hown, hts⟩ (k_X12_isThere l dC dI h0 h1 v0 r0 v1 v2 v3 v4 r1 r2 r3 r4 r5 r6 r7 v5 v6 r8 r9 r10 r11 v7 r12 r13 v8 v9 r14 v10 v11 r15 v12 v13 r16 v14 w15 r17 v16 v17 r18 r19 r20 r21 r22 r23 v18 r24 r25 r26 v19 g0 f20 x6 ⟨i_v1a, i_v1b⟩ ⟨i_v5a, i_v5b⟩ ⟨i_v6a, i_v6b⟩ ⟨i_v7a, i_v7b⟩ ⟨i_v8a, i_v8b⟩ ⟨i_v9a, i_v9b⟩ ⟨i_v10a, i_v10b⟩ ⟨i_v14a, i_v14b⟩ ⟨i_v18a, i_v18b⟩ ⟨i_v19a, i_v19b⟩ ia_f20.1 H.size) (cwV 1 hts g_X12_quarrels_0 rfl rfl rfl (by decide +kernel) ⟨Nat.le_of_ble_eq_true rfl, Nat.le_of_ble_eq_true rfl⟩) (pv_PV12 hPc hKc hDc (q0 := 0) rfl) rfl rfl hl.1 rfl (lv_room (Nat.le_of_ble_eq_true rfl)) dX12_quarrels_20 ⟨Nat.le_of_ble_eq_true rfl, Nat.le_of_ble_eq_true rfl⟩) hS (fun q _ h => hFc q h) hFc (fun ra23 u t H1 locs ht hvm hwra23 hB hz1 hk1 hS => ?_)
              try rw [hwra23] at hB
              obtain ⟨pt0_ra23, pt1_ra23, pt2_ra23, pt3_ra23, pt4_ra23, pt5_ra23, hP1, hK1, hD1⟩ := hB
              rw [ht] at hP1
              obtain ⟨hP2, hD2⟩ := va_join (wr := []) (w1 := (wd_5013416a h0 v0 r0 v1 v2 v3 v4 r1 r2 r3 r4 r5 r6 r7 v5 v6 r8 r9 r10 r11 v7 r12 r13 v8 v9 h1 r14 v10 v11 r15 v12 v13 r16 v14 w15 r17 v16 v17 r18 r19 r20 r21 r22 r23 v18 r24 r25 r26 v19 h1 g0 f20)) hP hD [0, 1] [] rfl rfl (by decide) (by decide) hk1 hFc hP1 hD1
              clear hP hD hPc hDc hKc hFc hP1 hK1 hD1 hk1 hz1
              generalize H1 = H at hP2 hS ⊢
              have hP : va_P (dC, dI) vwCl (wd_5013416a h0 v0 r0 v1 v2 v3 v4 r1 r2 r3 r4 r5 r6 r7 v5 v6 r8 r9 r10 r11 v7 r12 r13 v8 v9 h1 r14 v10 v11 r15 v12 v13 r16 v14 w15 r17 v16 v17 r18 r19 r20 r21 r22 r23 v18 r24 r25 r26 v19 h1 g0 f20) H := hP2
              have hD : va_D A (wd_5013416a h0 v0 r0 v1 v2 v3 v4 r1 r2 r3 r4 r5 r6 r7 v5 v6 r8 r9 r10 r11 v7 r12 r13 v8 v9 h1 r14 v10 v11 r15 v12 v13 r16 v14 w15 r17 v16 v17 r18 r19 r20 r21 r22 r23 v18 r24 r25 r26 v19 h1 g0 f20) := hD2
              clear hP2 hD2
              have wra23 : ra23.toInt = 0 → ¬ f20 (pm_I x6 7) = 1 := fun h9 => pt5_ra23 h9 (by omega) (by omega)
              have hJ25 : ∀ (x24 : Int32) (H : Heap) (locs : List Loc) (ls : Array Slot), 0 ≤ x24.toInt → x24.toInt ≤ 1 → va_P (dC, dI) vwCl (wd_5013416a h0 v0 r0 v1 v2 v3 v4 r1 r2 r3 r4 r5 r6 r7 v5 v6 r8 r9 r10 r11 v7 r12 r13 v8 v9 h1 r14 v10 v11 r15 v12 v13 r16 v14 w15 r17 v16 v17 r18 r19 r20 r21 r22 r23 v18 r24 r25 r26 v19 h1 g0 f20) H → va_D A (wd_5013416a h0 v0 r0 v1 v2 v3 v4 r1 r2 r3 r4 r5 r6 r7 v5 v6 r8 r9 r10 r11 v7 r12 r13 v8 v9 h1 r14 v10 v11 r15 v12 v13 r16 v14 w15 r17 v16 v17 r18 r19 r20 r21 r22 r23 v18 r24 r25 r26 v19 h1 g0 f20) → va_S A s.heap H locs → lv_has ls 4 [(3, .int x16), (2, .int x6), (1, .int x17), (0, .ref h0)] → W p l e ({ frames := 3, cells := 0, slots := 0, locals := 65 }) s m ([.ref h0] : List Value).toArray below meth c H locs 0 0 Q (F0 m 48 ls [.int x24, .int x17]) := by
                intro x24 H locs ls qa_x24 qb_x24 hP hD hS hl
                refine lv_iadd hx hb dX12_quarrels_48 ?_
                refine lv_topi (fun t26 et26 => ?_)
                refine lv_istore_n (lv' := [(1, .int t26), (3, .int x16), (2, .int x6), (0, .ref h0)]) hx hb dX12_quarrels_49 rfl hl (by decide) rfl (fun ls hl => ?_)
                obtain ⟨t27, et27⟩ : ∃ y : Int32, y = x16 + 1 := ⟨_, rfl⟩
                have gt27 : t27.toInt = x16.toInt + (1) := pv_add (a := x16.toInt) (b := (1)) et27 rfl (by decide) (by omega) (by omega)
                refine lv_iinc (v := t27) (lv' := [(3, .int t27), (1, .int t26), (2, .int x6), (0, .ref h0)]) hx hb dX12_quarrels_50 hl (k := 1) rfl (by rw [et27]; rfl) (by decide) rfl (fun ls hl => ?_)
                refine lv_goto (tgt := 12) hx hb dX12_quarrels_53 (by decide) ?_
                exact ih_hL20 t27 t26 H locs ls (by first | omega | decide) (by first | omega | decide) (by first | omega | (simp only [Int.toNat] at *; omega)) hP hD hS (lv_sub hl [0, 2, 1, 3] rfl)
              refine lv_if_eq (tgt := 47) hx hb dX12_quarrels_23 (by decide) (fun c28 => ?_) (fun c28 => ?_)
              · skip
                have fc28 : ra23.toInt = 0 := congrArg Int32.toInt c28
                have q0wra23 := wra23 (by omega)
                refine lv_iconst (v := 0) hx hb dX12_quarrels_47 (by decide) ?_
                exact hJ25 0 H locs ls (by decide) (by decide) hP hD hS (lv_sub hl [0, 1, 2, 3] rfl)
              · skip
                have fc28 : ¬ (ra23.toInt = 0) := fun h9 => c28 (Int32.toInt_inj.mp h9)
                have q1pt4_ra23 := pt4_ra23 (by omega)
                refine lv_aload_n hx hb dX12_quarrels_26 rfl (lv_at hl 3 rfl) ?_
                refine lv_iload_n hx hb dX12_quarrels_27 rfl (lv_at hl 0 rfl) ?_
                have hPc := hP.sub (ws' := (wd_5013416a h0 v0 r0 v1 v2 v3 v4 r1 r2 r3 r4 r5 r6 r7 v5 v6 r8 r9 r10 r11 v7 r12 r13 v8 v9 h1 r14 v10 v11 r15 v12 v13 r16 v14 w15 r17 v16 v17 r18 r19 r20 r21 r22 r23 v18 r24 r25 r26 v19 h1 g0 f20)) [0, 1] rfl
                have hDc := hD.sub (ws' := (wd_5013416a h0 v0 r0 v1 v2 v3 v4 r1 r2 r3 r4 r5 r6 r7 v5 v6 r8 r9 r10 r11 v7 r12 r13 v8 v9 h1 r14 v10 v11 r15 v12 v13 r16 v14 w15 r17 v16 v17 r18 r19 r20 r21 r22 r23 v18 r24 r25 r26 v19 h1 g0 f20)) [0, 1] (by decide) rfl
                have hKc := hK.sub (tys' := [(g0, .int)]) [0] rfl
                have hFc := va_free (wc := (wd_5013416a h0 v0 r0 v1 v2 v3 v4 r1 r2 r3 r4 r5 r6 r7 v5 v6 r8 r9 r10 r11 v7 r12 r13 v8 v9 h1 r14 v10 v11 r15 v12 v13 r16 v14 w15 r17 v16 v17 r18 r19 r20 r21 r22 r23 v18 r24 r25 r26 v19 h1 g0 f20)) hD hS hA [0, 1] rfl
                refine va_calli (va_runV (As := [.int x16]) (rest := [.int x17]) ⟨hx, hb, hml, hown, hts⟩ (k_X12_isThere l dC dI h0 h1 v0 r0 v1 v2 v3 v4 r1 r2 r3 r4 r5 r6 r7 v5 v6 r8 r9 r10 r11 v7 r12 r13 v8 v9 r14 v10 v11 r15 v12 v13 r16 v14 w15 r17 v16 v17 r18 r19 r20 r21 r22 r23 v18 r24 r25 r26 v19 g0 f20 x16 ⟨i_v1a, i_v1b⟩ ⟨i_v5a, i_v5b⟩ ⟨i_v6a, i_v6b⟩ ⟨i_v7a, i_v7b⟩ ⟨i_v8a, i_v8b⟩ ⟨i_v9a, i_v9b⟩ ⟨i_v10a, i_v10b⟩ ⟨i_v14a, i_v14b⟩ ⟨i_v18a, i_v18b⟩ ⟨i_v19a, i_v19b⟩ ia_f20.1 H.size) (cwV 1 hts g_X12_quarrels_0 rfl rfl rfl (by decide +kernel) ⟨Nat.le_of_ble_eq_true rfl, Nat.le_of_ble_eq_true rfl⟩) (pv_PV12 hPc hKc hDc (q0 := 0) rfl) rfl rfl hl.1 rfl (lv_room (Nat.le_of_ble_eq_true rfl)) dX12_quarrels_28 ⟨Nat.le_of_ble_eq_true rfl, Nat.le_of_ble_eq_true rfl⟩) hS (fun q _ h => hFc q h) hFc (fun ra29 u t H1 locs ht hvm hwra29 hB hz1 hk1 hS => ?_)
                try rw [hwra29] at hB
                obtain ⟨pt0_ra29, pt1_ra29, pt2_ra29, pt3_ra29, pt4_ra29, pt5_ra29, hP1, hK1, hD1⟩ := hB
                rw [ht] at hP1
                obtain ⟨hP2, hD2⟩ := va_join (wr := []) (w1 := (wd_5013416a h0 v0 r0 v1 v2 v3 v4 r1 r2 r3 r4 r5 r6 r7 v5 v6 r8 r9 r10 r11 v7 r12 r13 v8 v9 h1 r14 v10 v11 r15 v12 v13 r16 v14 w15 r17 v16 v17 r18 r19 r20 r21 r22 r23 v18 r24 r25 r26 v19 h1 g0 f20)) hP hD [0, 1] [] rfl rfl (by decide) (by decide) hk1 hFc hP1 hD1
                clear hP hD hPc hDc hKc hFc hP1 hK1 hD1 hk1 hz1
                generalize H1 = H at hP2 hS ⊢
                have hP : va_P (dC, dI) vwCl (wd_5013416a h0 v0 r0 v1 v2 v3 v4 r1 r2 r3 r4 r5 r6 r7 v5 v6 r8 r9 r10 r11 v7 r12 r13 v8 v9 h1 r14 v10 v11 r15 v12 v13 r16 v14 w15 r17 v16 v17 r18 r19 r20 r21 r22 r23 v18 r24 r25 r26 v19 h1 g0 f20) H := hP2
                have hD : va_D A (wd_5013416a h0 v0 r0 v1 v2 v3 v4 r1 r2 r3 r4 r5 r6 r7 v5 v6 r8 r9 r10 r11 v7 r12 r13 v8 v9 h1 r14 v10 v11 r15 v12 v13 r16 v14 w15 r17 v16 v17 r18 r19 r20 r21 r22 r23 v18 r24 r25 r26 v19 h1 g0 f20) := hD2
                clear hP2 hD2
                have wra29 : ra29.toInt = 0 → ¬ f20 (pm_I x16 7) = 1 := fun h9 => pt5_ra29 h9 (by omega) (by omega)
                refine lv_if_eq (tgt := 47) hx hb dX12_quarrels_31 (by decide) (fun c30 => ?_) (fun c30 => ?_)
                · skip
                  have fc30 : ra29.toInt = 0 := congrArg Int32.toInt c30
                  have q0wra29 := wra29 (by omega)
                  refine lv_iconst (v := 0) hx hb dX12_quarrels_47 (by decide) ?_
                  exact hJ25 0 H locs ls (by decide) (by decide) hP hD hS (lv_sub hl [0, 1, 2, 3] rfl)
                · skip
                  have fc30 : ¬ (ra29.toInt = 0) := fun h9 => c30 (Int32.toInt_inj.mp h9)
                  have q1pt4_ra29 := pt4_ra29 (by omega)
                  refine lv_aload_n hx hb dX12_quarrels_34 rfl (lv_at hl 3 rfl) ?_
                  refine lv_iload_n hx hb dX12_quarrels_35 rfl (lv_at hl 1 rfl) ?_
                  refine lv_iload_n hx hb dX12_quarrels_36 rfl (lv_at hl 0 rfl) ?_
                  have hPc := hP.sub (ws' := (wd_5013416a h0 v0 r0 v1 v2 v3 v4 r1 r2 r3 r4 r5 r6 r7 v5 v6 r8 r9 r10 r11 v7 r12 r13 v8 v9 h1 r14 v10 v11 r15 v12 v13 r16 v14 w15 r17 v16 v17 r18 r19 r20 r21 r22 r23 v18 r24 r25 r26 v19 h1 g0 f20)) [0, 1] rfl
                  have hDc := hD.sub (ws' := (wd_5013416a h0 v0 r0 v1 v2 v3 v4 r1 r2 r3 r4 r5 r6 r7 v5 v6 r8 r9 r10 r11 v7 r12 r13 v8 v9 h1 r14 v10 v11 r15 v12 v13 r16 v14 w15 r17 v16 v17 r18 r19 r20 r21 r22 r23 v18 r24 r25 r26 v19 h1 g0 f20)) [0, 1] (by decide) rfl
                  have hKc := hK.sub (tys' := [(g0, .int)]) [0] rfl
                  have hFc := va_free (wc := (wd_5013416a h0 v0 r0 v1 v2 v3 v4 r1 r2 r3 r4 r5 r6 r7 v5 v6 r8 r9 r10 r11 v7 r12 r13 v8 v9 h1 r14 v10 v11 r15 v12 v13 r16 v14 w15 r17 v16 v17 r18 r19 r20 r21 r22 r23 v18 r24 r25 r26 v19 h1 g0 f20)) hD hS hA [0, 1] rfl
                  refine va_calli (va_runV (As := [.int x6, .int x16]) (rest := [.int x17]) ⟨hx, hb, hml, hown, hts⟩ (k_X12_setsOff l dC dI h0 h1 v0 r0 v1 v2 v3 v4 r1 r2 r3 r4 r5 r6 r7 v5 v6 r8 r9 r10 r11 v7 r12 r13 v8 v9 r14 v10 v11 r15 v12 v13 r16 v14 w15 r17 v16 v17 r18 r19 r20 r21 r22 r23 v18 r24 r25 r26 v19 g0 f20 x6 x16 ⟨i_v1a, i_v1b⟩ ⟨i_v5a, i_v5b⟩ ⟨i_v6a, i_v6b⟩ ⟨i_v7a, i_v7b⟩ ⟨i_v8a, i_v8b⟩ ⟨i_v9a, i_v9b⟩ ⟨i_v10a, i_v10b⟩ ⟨i_v14a, i_v14b⟩ ⟨i_v18a, i_v18b⟩ ⟨i_v19a, i_v19b⟩ ⟨qa_x6, by first | omega | decide⟩ ⟨qa_x16, qb_x16⟩ ia_f20 H.size) (cwV 2 hts g_X12_quarrels_2 rfl rfl rfl (by decide +kernel) ⟨Nat.le_of_ble_eq_true rfl, Nat.le_of_ble_eq_true rfl⟩) (pv_PV12 hPc hKc hDc (q0 := 0) rfl) rfl rfl hl.1 rfl (lv_room (Nat.le_of_ble_eq_true rfl)) dX12_quarrels_37 ⟨Nat.le_of_ble_eq_true rfl, Nat.le_of_ble_eq_true rfl⟩) hS (fun q _ h => hFc q h) hFc (fun ra31 u t H1 locs ht hvm hwra31 hB hz1 hk1 hS => ?_)
                  try rw [hwra31] at hB
                  obtain ⟨pt0_ra31, pt1_ra31, hP1, hK1, hD1⟩ := hB
                  rw [ht] at hP1
                  obtain ⟨hP2, hD2⟩ := va_join (wr := []) (w1 := (wd_5013416a h0 v0 r0 v1 v2 v3 v4 r1 r2 r3 r4 r5 r6 r7 v5 v6 r8 r9 r10 r11 v7 r12 r13 v8 v9 h1 r14 v10 v11 r15 v12 v13 r16 v14 w15 r17 v16 v17 r18 r19 r20 r21 r22 r23 v18 r24 r25 r26 v19 h1 g0 f20)) hP hD [0, 1] [] rfl rfl (by decide) (by decide) hk1 hFc hP1 hD1
                  clear hP hD hPc hDc hKc hFc hP1 hK1 hD1 hk1 hz1
                  generalize H1 = H at hP2 hS ⊢
                  have hP : va_P (dC, dI) vwCl (wd_5013416a h0 v0 r0 v1 v2 v3 v4 r1 r2 r3 r4 r5 r6 r7 v5 v6 r8 r9 r10 r11 v7 r12 r13 v8 v9 h1 r14 v10 v11 r15 v12 v13 r16 v14 w15 r17 v16 v17 r18 r19 r20 r21 r22 r23 v18 r24 r25 r26 v19 h1 g0 f20) H := hP2
                  have hD : va_D A (wd_5013416a h0 v0 r0 v1 v2 v3 v4 r1 r2 r3 r4 r5 r6 r7 v5 v6 r8 r9 r10 r11 v7 r12 r13 v8 v9 h1 r14 v10 v11 r15 v12 v13 r16 v14 w15 r17 v16 v17 r18 r19 r20 r21 r22 r23 v18 r24 r25 r26 v19 h1 g0 f20) := hD2
                  clear hP2 hD2
                  refine lv_if_eq (tgt := 47) hx hb dX12_quarrels_40 (by decide) (fun c32 => ?_) (fun c32 => ?_)
                  · skip
                    have fc32 : ra31.toInt = 0 := congrArg Int32.toInt c32
                    refine lv_iconst (v := 0) hx hb dX12_quarrels_47 (by decide) ?_
                    exact hJ25 0 H locs ls (by decide) (by decide) hP hD hS (lv_sub hl [0, 1, 2, 3] rfl)
                  · skip
                    have fc32 : ¬ (ra31.toInt = 0) := fun h9 => c32 (Int32.toInt_inj.mp h9)
                    refine lv_iconst (v := 1) hx hb dX12_quarrels_43 (by decide) ?_
                    refine lv_goto (tgt := 48) hx hb dX12_quarrels_44 (by decide) ?_
                    exact hJ25 1 H locs ls (by decide) (by decide) hP hD hS (lv_sub hl [0, 1, 2, 3] rfl)
        exact hL20 _ 0 x7 H locs ls (by decide) (by decide) (Nat.lt_succ_self _) hP hD hS (lv_sub hl [0, 1, 2, 3] rfl)
  exact hL10 _ 0 0 H locs ls (by decide) (by decide) (Nat.lt_succ_self _) hP hD hS (lv_sub hl [0, 1, 2] rfl)
